noncomputable def REL2 (σ : Sg) : Prop := TP σ σ ∧ RLn σ 3 110 ∧ RLn σ 19 162 ∧ RT σ 8 1 109 ∧ RT σ 24 17 163 ∧ RK σ 2 1 103 104 ∧ RK σ 18 17 156 157
theorem kci_cls {a1 : Int32} (h0 : 0 ≤ a1.toInt) (h6 : a1.toInt ≤ 6) : kci a1 = cls a1.toNatClampNeg := by
  have e := cl_eq h0
  have h : a1.toNatClampNeg = 0 ∨ a1.toNatClampNeg = 1 ∨ a1.toNatClampNeg = 2 ∨ a1.toNatClampNeg = 3 ∨ a1.toNatClampNeg = 4 ∨ a1.toNatClampNeg = 5 ∨ a1.toNatClampNeg = 6 := by omega
  unfold kci
  rw [← e]
  rcases h with h | h | h | h | h | h | h <;> rw [h] <;> rfl
theorem R2_mower {V : Vx} {a1 a2 r1 r2 : Int32} {σ σ1 σ2 : Sg} (x : XI V σ) (hc : (gi σ 1 1).toInt = (gi σ 74 0).toInt) (h0 : 0 ≤ (gi σ 74 0).toInt) (h6 : (gi σ 74 0).toInt ≤ 6) (q : REL2 σ) (f : FX (fun id => id = 2 ∨ id = 3 ∨ id = 5 ∨ 2000 ≤ id) (fun id k => id = 1 ∧ (k = 1 ∨ k = 3)) σ σ1) (w : MWA r1 a1 a2 (gi σ 1 1).toInt (gi σ1 1 1).toInt) (nw : NEWM V a1 a2 σ σ1) (g : Fr [74, 103, 104, 105, 106, 107, 108, 109, 110] [0, 2] σ1 σ2) (h2 : F_X12_mower a1 a2 σ1 = (r2, σ2)) : REL2 σ2 := by
  obtain ⟨n0, hn0⟩ : ∃ n, n = (gi σ 1 1).toNatClampNeg := ⟨_, rfl⟩
  have en := cl_eq (x := gi σ 1 1) (by omega)
  have ex : gi σ 1 1 = nI n0 := by rw [hn0]; exact nI_ofI (by omega)
  have em : gi σ 74 0 = nI n0 := by rw [← ex]; exact i_eq hc.symm
  have e74 : gi σ1 74 0 = nI n0 := by
    rw [← em]
    exact f.1 74 0 (by intro h9; (try dsimp only at h9); omega) (by intro h9; (try dsimp only at h9); omega)
  unfold MWA at w
  rcases N_mmower e74 (by omega) h2 with ⟨bad, rfl⟩ | ⟨ok1, ok2, ok3, m103, m104, -, -, -, -, m110, m109, mo⟩
  · rcases nw with rfl | ⟨μ, n1, n2, n3, n4, n5, n6, n7, -⟩
    · exact q
    · exfalso; omega
  rcases nw with rfl | ⟨μ, n1, n2, n3, n4, n5, n6, n7, n8, n9, n10, n11⟩
  · exfalso; omega
  obtain ⟨q1, q2, q3, q4, q5, q6, q7⟩ := q
  have fi : ∀ id k, ¬ (id = 2 ∨ id = 3 ∨ id = 5 ∨ 2000 ≤ id) → id ≠ 1 → gi σ1 id k = gi σ id k := fun id k h9 h8 => f.1 id k h9 (fun z => h8 z.1)
  have gx : ∀ id k, ¬ (74 ≤ id ∧ id ≤ 110) → gi σ2 id k = gi σ1 id k := fun id k h9 => mo id k (by omega) (by omega)
  have gr2 : ∀ id k, gr σ2 id k = gr σ1 id k := fun id k => congrFun (congrFun g.2.2 id) k
  have old : ∀ c m μ', c = 1 ∨ c = 17 → gr σ (c + 1) m = some μ' → μ' ≠ μ := fun c m μ' hcc h9 => by
    obtain ⟨ci, -, -, hin⟩ := (x.2.1 c (by rcases hcc with rfl | rfl; exact Or.inl rfl; exact Or.inr (Or.inl rfl))).2 m μ' h9
    intro e
    exact n2 (by rw [← e]; exact hin)
  refine ⟨?_, ?_, ?_, ?_, ?_, ?_, ?_⟩
  · exact TP_m g (by decide +kernel) (by decide +kernel) (TP_x f (by intro id h9 z; (try dsimp only at z); omega) (by intro id k h9 z; (try dsimp only at z); omega) q1)
  · intro p hp
    rw [gx 3 p (by omega), m110, n9, ← hn0]
    by_cases e : p = n0
    · rw [if_pos e, if_pos e]; exact ex
    · rw [if_neg e, if_neg e, fi 110 p (by omega) (by omega)]; exact q2 p hp
  · intro p hp
    rw [gx 19 p (by omega), mo 162 p (by omega) (by omega), fi 19 p (by omega) (by omega), fi 162 p (by omega) (by omega)]
    exact q3 p hp
  · refine ⟨fun k hk => ?_, fun k hk h9 => ?_⟩
    · rw [gx 8 k (by omega), m109, fi 8 k (by omega) (by omega), fi 109 k (by omega) (by omega)]
      by_cases e : 4 * n0 ≤ k ∧ k < 4 * n0 + 4
      · rw [if_pos e]; exact q4.2 k hk (by omega)
      · rw [if_neg e]; exact q4.1 k hk
    · rw [gx 1 1 (by omega)] at h9
      rw [gx 8 k (by omega), fi 8 k (by omega) (by omega)]
      exact q4.2 k hk (by omega)
  · exact RT_m g (by decide +kernel) (by decide +kernel) (by decide +kernel) (RT_x f (by intro id h9 z; (try dsimp only at z); omega) (by intro id k h9 z; (try dsimp only at z); omega) (by rw [fi 17 1 (by omega) (by omega)]) q5)
  · intro m hm
    rw [gx 1 1 (by omega)] at hm
    by_cases e : m = n0
    · have ka := cl_eq ok1.1
      refine ⟨μ, a1.toNatClampNeg, by rw [gr2, n8, ← hn0, if_pos e], by omega, n1, by rw [n3, kci_cls ok1.1 ok1.2], by rw [m103, if_pos e]; omega, by rw [gx μ _ (by omega), n4]; omega, by rw [gx μ _ (by omega), n5, e]; omega, by rw [gx μ _ (by omega), m104, if_pos e, n6]⟩
    · obtain ⟨μ', κ, h1, h3, h4, h5, h7, h8, h9, h10⟩ := q6 m (by omega)
      have ne := old 1 m μ' (Or.inl rfl) h1
      refine ⟨μ', κ, by rw [gr2, n8, ← hn0, if_neg e]; exact h1, h3, h4, h5, by rw [m103, if_neg e, fi 103 m (by omega) (by omega)]; exact h7, by rw [gx μ' _ (by omega), n11 _ _ ne h4]; exact h8, by rw [gx μ' _ (by omega), n11 _ _ ne h4]; exact h9, by rw [gx μ' _ (by omega), n11 _ _ ne h4, m104, if_neg e, fi 104 m (by omega) (by omega)]; exact h10⟩
  · intro m hm
    rw [gx 17 1 (by omega), fi 17 1 (by omega) (by omega)] at hm
    obtain ⟨μ', κ, h1, h3, h4, h5, h7, h8, h9, h10⟩ := q7 m hm
    have ne := old 17 m μ' (Or.inr rfl) h1
    refine ⟨μ', κ, by rw [gr2, f.2.2 18 m (by intro z; (try dsimp only at z); omega) (by intro z; (try dsimp only at z); omega)]; exact h1, h3, h4, h5, by rw [mo 156 m (by omega) (by omega), fi 156 m (by omega) (by omega)]; exact h7, by rw [gx μ' _ (by omega), n11 _ _ ne h4]; exact h8, by rw [gx μ' _ (by omega), n11 _ _ ne h4]; exact h9, by rw [gx μ' _ (by omega), n11 _ _ ne h4, mo 157 m (by omega) (by omega), fi 157 m (by omega) (by omega)]; exact h10⟩
theorem R2_image {r2 : Int32} {σ σ1 σ2 : Sg} (h6 : (gi σ 1 1).toInt ≤ 6) (q : REL2 σ) (f : FX (fun id => id = 18 ∨ id = 19 ∨ id = 20 ∨ id = 21 ∨ id = 22 ∨ id = 23 ∨ id = 24 ∨ id = 26 ∨ id = 28 ∨ id = 30) (fun id k => (id = 0 ∧ k = 3) ∨ (id = 17 ∧ k = 1) ∨ (id = 17 ∧ k = 3) ∨ (id = 17 ∧ k = 9) ∨ (id = 17 ∧ k = 10) ∨ (id = 17 ∧ k = 11) ∨ (id = 25 ∧ k = 1) ∨ (id = 27 ∧ k = 1) ∨ (id = 29 ∧ k = 1)) σ σ1) (y : CPY σ σ1 17 1) (g : Fr [74, 156, 157, 158, 159, 160, 161, 162, 163, 164, 165, 166, 167, 168] [49, 50, 51, 52, 53, 54, 55] σ1 σ2) (h2 : F_X12_image σ1 = (r2, σ2)) : REL2 σ2 := by
  obtain ⟨q1, q2, q3, q4, q5, q6, q7⟩ := q
  obtain ⟨⟨y1, -, -, -, -⟩, ⟨y6, y7⟩, y8⟩ := y
  obtain ⟨m1, m2, -, -, mo⟩ := N_mimage h2
  have fi : ∀ id k, ¬ ((18 ≤ id ∧ id ≤ 30) ∨ id = 0 ∨ id = 17) → gi σ1 id k = gi σ id k := fun id k h9 => f.1 id k (by intro z; (try dsimp only at z); omega) (by intro z; (try dsimp only at z); omega)
  have gx : ∀ id k, ¬ (156 ≤ id ∧ id ≤ 168) → id ≠ 74 → gi σ2 id k = gi σ1 id k := fun id k h9 h8 => mo id k (by omega)
  have gr2 : ∀ id k, gr σ2 id k = gr σ1 id k := fun id k => congrFun (congrFun g.2.2 id) k
  have g2 : ∀ k, gr σ1 2 k = gr σ 2 k := fun k => f.2.2 2 k (by intro z; (try dsimp only at z); omega) (by intro z; (try dsimp only at z); omega)
  refine ⟨?_, ?_, ?_, ?_, ?_, ?_, ?_⟩
  · exact TP_m g (by decide +kernel) (by decide +kernel) (TP_x f (by intro id h9 z; (try dsimp only at z); omega) (by intro id k h9 z; (try dsimp only at z); omega) q1)
  · intro p hp
    rw [gx 3 p (by omega) (by omega), gx 110 p (by omega) (by omega), fi 3 p (by omega), fi 110 p (by omega)]; exact q2 p hp
  · intro p hp
    obtain ⟨-, -, -, -, -, -, m110, -⟩ := m1 p hp
    rw [m110, gx 19 p (by omega) (by omega), fi 110 p (by omega), show gi σ1 19 p = gi σ 3 p from y7 2 (by decide +kernel) (by decide +kernel) p hp]
    exact q2 p hp
  · exact RT_m g (by decide +kernel) (by decide +kernel) (by decide +kernel) (RT_x f (by intro id h9 z; (try dsimp only at z); omega) (by intro id k h9 z; (try dsimp only at z); omega) (by rw [fi 1 1 (by omega)]) q4)
  · refine ⟨fun k hk => ?_, fun k hk h9 => ?_⟩
    · rw [m2 k hk, gx 24 k (by omega) (by omega), fi 109 k (by omega), show gi σ1 24 k = gi σ 8 k from y8 k hk]; exact q4.1 k hk
    · rw [gx 17 1 (by omega) (by omega), y1] at h9
      rw [gx 24 k (by omega) (by omega), show gi σ1 24 k = gi σ 8 k from y8 k hk]; exact q4.2 k hk h9
  · exact RK_m g (by decide +kernel) (by decide +kernel) (RK_x f (by intro id h9 z; (try dsimp only at z); omega) (by intro id k h9 z; (try dsimp only at z); omega) (by rw [fi 1 1 (by omega)]) q6)
  · intro m hm
    rw [gx 17 1 (by omega) (by omega), y1] at hm
    obtain ⟨m103, m104, -⟩ := m1 m (by omega)
    obtain ⟨μ', κ, h1, h3, h4, h5, h7, h8, h9, h10⟩ := q6 m hm
    refine ⟨μ', κ, by rw [gr2, show gr σ1 18 m = gr σ 2 m from y6 m (by omega)]; exact h1, h3, h4, h5, by rw [m103, fi 103 m (by omega)]; exact h7, by rw [gx μ' _ (by omega) (by omega), fi μ' _ (by omega)]; exact h8, by rw [gx μ' _ (by omega) (by omega), fi μ' _ (by omega)]; exact h9, by rw [gx μ' _ (by omega) (by omega), fi μ' _ (by omega), m104, fi 104 m (by omega)]; exact h10⟩
theorem R2_undo {r2 : Int32} {σ σ1 σ2 : Sg} (h6 : (gi σ 17 1).toInt ≤ 6) (ht : (gi σ 0 3).toInt = (gi σ 74 49).toInt) (q : REL2 σ) (f : FX (fun id => id = 10 ∨ id = 12 ∨ id = 14 ∨ id = 2 ∨ id = 3 ∨ id = 4 ∨ id = 5 ∨ id = 6 ∨ id = 7 ∨ id = 8) (fun id k => (id = 1 ∧ k = 1) ∨ (id = 1 ∧ k = 3) ∨ (id = 1 ∧ k = 9) ∨ (id = 1 ∧ k = 10) ∨ (id = 1 ∧ k = 11) ∨ (id = 11 ∧ k = 1) ∨ (id = 13 ∧ k = 1) ∨ (id = 9 ∧ k = 1)) σ σ1) (y0 : (gi σ 0 3).toInt ≠ 0 → CPY σ σ1 1 17) (y9 : (gi σ 0 3).toInt = 0 → σ1 = σ) (g : Fr [74, 103, 104, 105, 106, 107, 108, 109, 110, 142, 143, 144, 147, 148] [0, 1, 2, 12, 41, 45, 46] σ1 σ2) (h2 : F_X12_undo σ1 = (r2, σ2)) : REL2 σ2 := by
  by_cases z : (gi σ 0 3).toInt = 0
  · have e := y9 z
    subst e
    have e49 : gi σ1 74 49 = 0 := i_eq (b := (0 : Int32)) (by show (gi σ1 74 49).toInt = 0; omega)
    unfold F_X12_undo at h2
    rw [if_pos e49] at h2
    rw [← (Prod.mk.inj h2).2]
    exact q
  obtain ⟨q1, q2, q3, q4, q5, q6, q7⟩ := q
  obtain ⟨⟨y1, -, -, -, -⟩, ⟨y6, y7⟩, y8⟩ := y0 z
  have fi : ∀ id k, ¬ (1 ≤ id ∧ id ≤ 14) → gi σ1 id k = gi σ id k := fun id k h9 => f.1 id k (by intro z; (try dsimp only at z); omega) (by intro z; (try dsimp only at z); omega)
  have hz : ¬ gi σ1 74 49 = 0 := fun e => by
    rw [fi 74 49 (by omega)] at e
    have e2 : (gi σ 74 49).toInt = 0 := congrArg Int32.toInt e
    omega
  obtain ⟨m1, m2, -, -, mo⟩ := N_mundo h2 hz
  have gx : ∀ id k, ¬ (74 ≤ id ∧ id ≤ 148) → gi σ2 id k = gi σ1 id k := fun id k h9 => mo id k (by omega)
  have gr2 : ∀ id k, gr σ2 id k = gr σ1 id k := fun id k => congrFun (congrFun g.2.2 id) k
  have g18 : ∀ k, gr σ1 18 k = gr σ 18 k := fun k => f.2.2 18 k (by intro z; (try dsimp only at z); omega) (by intro z; (try dsimp only at z); omega)
  refine ⟨?_, ?_, ?_, ?_, ?_, ?_, ?_⟩
  · exact TP_m g (by decide +kernel) (by decide +kernel) (TP_x f (by intro id h9 z; (try dsimp only at z); omega) (by intro id k h9 z; (try dsimp only at z); omega) q1)
  · intro p hp
    obtain ⟨-, -, -, -, -, -, m110, -⟩ := m1 p hp
    rw [m110, gx 3 p (by omega), fi 162 p (by omega), show gi σ1 3 p = gi σ 19 p from y7 2 (by decide +kernel) (by decide +kernel) p hp]
    exact q3 p hp
  · intro p hp
    rw [gx 19 p (by omega), gx 162 p (by omega), fi 19 p (by omega), fi 162 p (by omega)]; exact q3 p hp
  · refine ⟨fun k hk => ?_, fun k hk h9 => ?_⟩
    · rw [m2 k hk, gx 8 k (by omega), fi 163 k (by omega), show gi σ1 8 k = gi σ 24 k from y8 k hk]; exact q5.1 k hk
    · rw [gx 1 1 (by omega), y1] at h9
      rw [gx 8 k (by omega), show gi σ1 8 k = gi σ 24 k from y8 k hk]; exact q5.2 k hk h9
  · exact RT_m g (by decide +kernel) (by decide +kernel) (by decide +kernel) (RT_x f (by intro id h9 z; (try dsimp only at z); omega) (by intro id k h9 z; (try dsimp only at z); omega) (by rw [fi 17 1 (by omega)]) q5)
  · intro m hm
    rw [gx 1 1 (by omega), y1] at hm
    obtain ⟨m103, m104, -⟩ := m1 m (by omega)
    obtain ⟨μ', κ, h1, h3, h4, h5, h7, h8, h9, h10⟩ := q7 m hm
    refine ⟨μ', κ, by rw [gr2, show gr σ1 2 m = gr σ 18 m from y6 m (by omega)]; exact h1, h3, h4, h5, by rw [m103, fi 156 m (by omega)]; exact h7, by rw [gx μ' _ (by omega), fi μ' _ (by omega)]; exact h8, by rw [gx μ' _ (by omega), fi μ' _ (by omega)]; exact h9, by rw [gx μ' _ (by omega), fi μ' _ (by omega), m104, fi 157 m (by omega)]; exact h10⟩
  · exact RK_m g (by decide +kernel) (by decide +kernel) (RK_x f (by intro id h9 z; (try dsimp only at z); omega) (by intro id k h9 z; (try dsimp only at z); omega) (by rw [fi 17 1 (by omega)]) q7)
/-! the class's mower and field in words of INV -/
theorem FI_vr {V V' : Vx} {σ σ' : Sg} (h : FI V σ) (hg : ∀ k, gr σ' 49 k = gr σ 49 k) (hi : ∀ id ∈ ids V', id ∈ ids V ∨ 2000 ≤ id) : FI V' σ' := fun k hk hn r hr hm => by
  rw [hg] at hn
  rcases hi _ hm with h9 | h9
  · exact h k hk hn r hr h9
  · omega
set_option maxHeartbeats 4000000 in
theorem L3_X11_mower {l : Launch} {V : Vx} {a1 a2 : Int32} {σ0 : Sg} (hU : UPV V) (hw : wfd V) (q : INV V σ0) : K_X11_mower l V a1 a2 σ0 (fun r V' σ' => VR V V' ∧ wfd V' ∧ INV V' σ' ∧ FX (fun id => id = 2 ∨ id = 3 ∨ id = 5 ∨ 2000 ≤ id) (fun id k => id = 1 ∧ (k = 1 ∨ k = 3)) σ0 σ' ∧ MWA r a1 a2 (gi σ0 1 1).toInt (gi σ' 1 1).toInt ∧ NEWM V a1 a2 σ0 σ') := by
  refine kn_X11_mower hU hw q.1.1 q.1.2.1 q.1.2.2.2.1 (fun r V' σ' v hi hw2 x n f e h8 h7 => ⟨v, hw2, ?_, f, h8, h7⟩)
  obtain ⟨⟨q1, q2, q3, q4, q5, q6, q7, q8, q9, q10⟩, qm⟩ := q
  exact ⟨⟨x, n, NN_fx q3 f (by intro h9; (try dsimp only [SFd, FFd] at h9) <;> first | exact h9 | omega) (by intro h9; (try dsimp only [SFd, FFd] at h9) <;> first | exact h9 | omega) (by intro h9; (try dsimp only [SFd, FFd] at h9) <;> first | exact h9 | omega) (by intro h9; (try dsimp only [SFd, FFd] at h9) <;> first | exact h9 | omega) (by intro h9; (try dsimp only [SFd, FFd] at h9) <;> first | exact h9 | omega) (fun k => (by intro h9; (try dsimp only [SFd, FFd] at h9) <;> first | exact h9 | omega)) (fun k => (by intro h9; (try dsimp only [SFd, FFd] at h9) <;> first | exact h9 | omega)), e, by rw [FX_i f (id := 17) (k := 3) (by intro h9; (try dsimp only [SFd, FFd] at h9) <;> first | exact h9 | omega) (by intro h9; (try dsimp only [SFd, FFd] at h9) <;> first | exact h9 | omega), FX_i f (id := 17) (k := 1) (by intro h9; (try dsimp only [SFd, FFd] at h9) <;> first | exact h9 | omega) (by intro h9; (try dsimp only [SFd, FFd] at h9) <;> first | exact h9 | omega)]; exact q5, by rw [FX_i f (id := 1) (k := 9) (by intro h9; (try dsimp only [SFd, FFd] at h9) <;> first | exact h9 | omega) (by intro h9; (try dsimp only [SFd, FFd] at h9) <;> first | exact h9 | omega)]; exact q6, by rw [FX_i f (id := 17) (k := 9) (by intro h9; (try dsimp only [SFd, FFd] at h9) <;> first | exact h9 | omega) (by intro h9; (try dsimp only [SFd, FFd] at h9) <;> first | exact h9 | omega)]; exact q7, by rw [FX_i f (id := 9) (k := 1) (by intro h9; (try dsimp only [SFd, FFd] at h9) <;> first | exact h9 | omega) (by intro h9; (try dsimp only [SFd, FFd] at h9) <;> first | exact h9 | omega)]; exact q8, by rw [FX_i f (id := 25) (k := 1) (by intro h9; (try dsimp only [SFd, FFd] at h9) <;> first | exact h9 | omega) (by intro h9; (try dsimp only [SFd, FFd] at h9) <;> first | exact h9 | omega)]; exact q9, FI_vr q10 (fun k => FX_r f (id := 49) (k := k) (by intro h9; (try dsimp only [SFd, FFd] at h9) <;> first | exact h9 | omega) (by intro h9; (try dsimp only [SFd, FFd] at h9) <;> first | exact h9 | omega)) hi⟩, IVM_ag (MA_fx f (by intro id h9; (try dsimp only at h9) <;> omega) (by intro id k h9; (try dsimp only at h9) <;> omega)) qm⟩
/-! every method in words of INV, with all that is known of it -/
set_option maxHeartbeats 4000000 in
theorem L3_X11_row {l : Launch} {V : Vx} {a1 : Int32} {a2 : Int32} {a3 : Int32} {σ0 : Sg} {Qk : Int32 → Sg → Prop} (q : INV V σ0) (h9ret : ∀ (r : Int32) (σ' : Sg), INV V σ' → (FX (fun id => id = 8) (fun _ _ => False) σ0 σ') → (F_X11_row a1 a2 a3 σ0 = (r, σ')) → Qk r σ') : K_X11_row l V a1 a2 a3 σ0 Qk := by
  refine kF_X11_row q.1.1 q.1.2.1 (fun r σ' p0 p1 p2 p3 => h9ret r σ' ?_ p1 p3)
  exact INV_fx (FX_tr FX_rf p1 (by intro id h9; (try dsimp only at h9) <;> unfold Sf <;> first | exact h9.elim | omega) (by intro id k h9; (try dsimp only at h9) <;> unfold Sf Ff <;> first | exact h9.elim | omega)) p0 q
set_option maxHeartbeats 4000000 in
theorem L3_X11_place {l : Launch} {V : Vx} {a1 : Int32} {a2 : Int32} {σ0 : Sg} {Qk : Int32 → Sg → Prop} (q : INV V σ0) (h9ret : ∀ (r : Int32) (σ' : Sg), INV V σ' → (FX (fun id => id = 3) (fun _ _ => False) σ0 σ') → (F_X11_place a1 a2 σ0 = (r, σ')) → Qk r σ') : K_X11_place l V a1 a2 σ0 Qk := by
  refine kF_X11_place q.1.1 q.1.2.1 q.1.2.2.2.1 (fun r σ' p0 p1 p2 p3 => h9ret r σ' ?_ p1 p3)
  obtain ⟨⟨q1, q2, q3, q4, q5, q6, q7, q8, q9, q10⟩, qm⟩ := q
  exact ⟨⟨p0, p2, NN_fx q3 p1 (by intro h9; (try dsimp only at h9) <;> first | exact h9 | omega) (by intro h9; (try dsimp only at h9) <;> first | exact h9 | omega) (by intro h9; (try dsimp only at h9) <;> first | exact h9 | omega) (by intro h9; (try dsimp only at h9) <;> first | exact h9 | omega) (by intro h9; (try dsimp only at h9) <;> first | exact h9 | omega) (fun k => (by intro h9; (try dsimp only at h9) <;> first | exact h9 | omega)) (fun k => (by intro h9; (try dsimp only at h9) <;> first | exact h9 | omega)), by rw [FX_i p1 (id := 1) (k := 3) (by intro h9; (try dsimp only at h9) <;> first | exact h9 | omega) (by intro h9; (try dsimp only at h9) <;> first | exact h9 | omega), FX_i p1 (id := 1) (k := 1) (by intro h9; (try dsimp only at h9) <;> first | exact h9 | omega) (by intro h9; (try dsimp only at h9) <;> first | exact h9 | omega)]; exact q4, by rw [FX_i p1 (id := 17) (k := 3) (by intro h9; (try dsimp only at h9) <;> first | exact h9 | omega) (by intro h9; (try dsimp only at h9) <;> first | exact h9 | omega), FX_i p1 (id := 17) (k := 1) (by intro h9; (try dsimp only at h9) <;> first | exact h9 | omega) (by intro h9; (try dsimp only at h9) <;> first | exact h9 | omega)]; exact q5, by rw [FX_i p1 (id := 1) (k := 9) (by intro h9; (try dsimp only at h9) <;> first | exact h9 | omega) (by intro h9; (try dsimp only at h9) <;> first | exact h9 | omega)]; exact q6, by rw [FX_i p1 (id := 17) (k := 9) (by intro h9; (try dsimp only at h9) <;> first | exact h9 | omega) (by intro h9; (try dsimp only at h9) <;> first | exact h9 | omega)]; exact q7, by rw [FX_i p1 (id := 9) (k := 1) (by intro h9; (try dsimp only at h9) <;> first | exact h9 | omega) (by intro h9; (try dsimp only at h9) <;> first | exact h9 | omega)]; exact q8, by rw [FX_i p1 (id := 25) (k := 1) (by intro h9; (try dsimp only at h9) <;> first | exact h9 | omega) (by intro h9; (try dsimp only at h9) <;> first | exact h9 | omega)]; exact q9, FI_fx p1 (by intro h9; (try dsimp only at h9) <;> first | exact h9 | omega) (fun k => (by intro h9; (try dsimp only at h9) <;> first | exact h9 | omega)) q10⟩, IVM_ag (MA_fx p1 (by intro id h9; (try dsimp only at h9) <;> omega) (by intro id k h9; (try dsimp only at h9) <;> first | exact h9.elim | omega)) qm⟩
set_option maxHeartbeats 4000000 in
theorem L3_X11_book {l : Launch} {V : Vx} {a1 : Int32} {σ0 : Sg} {Qk : Int32 → Sg → Prop} (q : INV V σ0) (h9ret : ∀ (r : Int32) (σ' : Sg), INV V σ' → (FX (fun id => id = 14) (fun id k => (id = 13 ∧ k = 1)) σ0 σ') → (PBA r a1 (gi σ0 13 1) (gi σ' 13 1) ((gi σ0 1 1).toInt - 1) 8) → Qk r σ') : K_X11_book l V a1 σ0 Qk := by
  refine kt_X11_book q.1.1 (fun r σ' p0 p1 p2 => h9ret r σ' ?_ p1 p2)
  exact INV_fx (FX_tr FX_rf p1 (by intro id h9; (try dsimp only at h9) <;> unfold Sf <;> first | exact h9.elim | omega) (by intro id k h9; (try dsimp only at h9) <;> unfold Sf Ff <;> first | exact h9.elim | omega)) p0 q
set_option maxHeartbeats 4000000 in
theorem L3_X11_looked {l : Launch} {V : Vx} {σ0 : Sg} {Qk : Int32 → Sg → Prop} (q : INV V σ0) (h9ret : ∀ (r : Int32) (σ' : Sg), INV V σ' → (FX (fun id => id = 34 ∨ id = 35 ∨ id = 36 ∨ id = 37 ∨ id = 38 ∨ id = 39 ∨ id = 40 ∨ id = 47 ∨ id = 48) (fun id k => (id = 33 ∧ k = 1) ∨ (id = 33 ∧ k = 3) ∨ (id = 33 ∧ k = 9) ∨ (id = 33 ∧ k = 10) ∨ (id = 33 ∧ k = 11)) σ0 σ') → Qk r σ') : K_X11_looked l V σ0 Qk := by
  refine k_X11_looked q.1.1 q.1.2.1 q.1.2.2.2.2.2.1 (fun r σ' p0 p1 p2 => h9ret r σ' ?_ p1)
  exact INV_fx (FX_tr FX_rf p1 (by intro id h9; (try dsimp only at h9) <;> unfold Sf <;> first | exact h9.elim | omega) (by intro id k h9; (try dsimp only at h9) <;> unfold Sf Ff <;> first | exact h9.elim | omega)) p0 q
set_option maxHeartbeats 4000000 in
theorem L3_X11_act {l : Launch} {V : Vx} {a1 : Int32} {a2 : Int32} {a3 : Int32} {σ0 : Sg} {Qk : Int32 → Sg → Prop} (q : INV V σ0) (h9ret : ∀ (r : Int32) (σ' : Sg), INV V σ' → (FX (fun id => id = 65) (fun id k => (id = 64 ∧ k = 1)) σ0 σ') → (F_X11_act a1 a2 a3 σ0 = (r, σ')) → Qk r σ') : K_X11_act l V a1 a2 a3 σ0 Qk := by
  refine kF_X11_act q.1.1 q.1.2.1 (fun r σ' p0 p1 p2 p3 => h9ret r σ' ?_ p1 p3)
  exact INV_fx (FX_tr FX_rf p1 (by intro id h9; (try dsimp only at h9) <;> unfold Sf <;> first | exact h9.elim | omega) (by intro id k h9; (try dsimp only at h9) <;> unfold Sf Ff <;> first | exact h9.elim | omega)) p0 q
set_option maxHeartbeats 4000000 in
theorem L3_X11_trace {l : Launch} {V : Vx} {a1 : Int32} {σ0 : Sg} {Qk : Int32 → Sg → Prop} (q : INV V σ0) (h9ret : ∀ (r : Int32) (σ' : Sg), INV V σ' → (FX (fun id => False) (fun _ _ => False) σ0 σ') → (F_X11_trace a1 σ0 = (r, σ')) → Qk r σ') : K_X11_trace l V a1 σ0 Qk := by
  refine kF_X11_trace q.1.1 (fun r σ' p0 p1 p2 => h9ret r σ' ?_ p1 p2)
  exact INV_fx (FX_tr FX_rf p1 (by intro id h9; (try dsimp only at h9) <;> unfold Sf <;> first | exact h9.elim | omega) (by intro id k h9; (try dsimp only at h9) <;> unfold Sf Ff <;> first | exact h9.elim | omega)) p0 q
set_option maxHeartbeats 4000000 in
theorem L3_X11_taken {l : Launch} {V : Vx} {a1 : Int32} {a2 : Int32} {σ0 : Sg} {Qk : Int32 → Sg → Prop} (q : INV V σ0) (h9ret : ∀ (r : Int32) (σ' : Sg), INV V σ' → (FX (fun id => False) (fun _ _ => False) σ0 σ') → (F_X11_taken a1 a2 σ0 = (r, σ')) → Qk r σ') : K_X11_taken l V a1 a2 σ0 Qk := by
  refine kF_X11_taken q.1.1 q.1.2.1 (fun r σ' p0 p1 p2 p3 => h9ret r σ' ?_ p1 p3)
  exact INV_fx (FX_tr FX_rf p1 (by intro id h9; (try dsimp only at h9) <;> unfold Sf <;> first | exact h9.elim | omega) (by intro id k h9; (try dsimp only at h9) <;> unfold Sf Ff <;> first | exact h9.elim | omega)) p0 q
set_option maxHeartbeats 4000000 in
theorem L3_X11_tape {l : Launch} {V : Vx} {a1 : Int32} {a2 : Int32} {a3 : Int32} {σ0 : Sg} {Qk : Int32 → Sg → Prop} (q : INV V σ0) (h9ret : ∀ (r : Int32) (σ' : Sg), INV V σ' → (FX (fun id => (53 ≤ id ∧ id ≤ 63)) (fun id k => (52 ≤ id ∧ id ≤ 62)) σ0 σ') → (F_X11_tape a1 a2 a3 σ0 = (r, σ')) → Qk r σ') : K_X11_tape l V a1 a2 a3 σ0 Qk := by
  refine kF_X11_tape q.1.1 (fun r σ' p0 p1 p2 => h9ret r σ' ?_ p1 p2)
  exact INV_fx (FX_tr FX_rf p1 (by intro id h9; (try dsimp only at h9) <;> unfold Sf <;> first | exact h9.elim | omega) (by intro id k h9; (try dsimp only at h9) <;> unfold Sf Ff <;> first | exact h9.elim | omega)) p0 q
set_option maxHeartbeats 4000000 in
theorem L3_X11_item {l : Launch} {V : Vx} {a1 : Int32} {a2 : Int32} {a3 : Int64} {σ0 : Sg} {Qk : Int32 → Sg → Prop} (q : INV V σ0) (h9ret : ∀ (r : Int32) (σ' : Sg), INV V σ' → (FX (fun id => (53 ≤ id ∧ id ≤ 63)) (fun _ _ => False) σ0 σ') → (F_X11_item a1 a2 a3 σ0 = (r, σ')) → Qk r σ') : K_X11_item l V a1 a2 a3 σ0 Qk := by
  refine kF_X11_item q.1.1 (fun r σ' p0 p1 p2 => h9ret r σ' ?_ p1 p2)
  exact INV_fx (FX_tr FX_rf p1 (by intro id h9; (try dsimp only at h9) <;> unfold Sf <;> first | exact h9.elim | omega) (by intro id k h9; (try dsimp only at h9) <;> unfold Sf Ff <;> first | exact h9.elim | omega)) p0 q
set_option maxHeartbeats 4000000 in
theorem L3_X11_read {l : Launch} {V : Vx} {a1 : Int32} {a2 : Int32} {σ0 : Sg} {Qk : Int64 → Sg → Prop} (q : INV V σ0) (h9ret : ∀ (r : Int64) (σ' : Sg), INV V σ' → (FX (fun id => False) (fun _ _ => False) σ0 σ') → (F_X11_read a1 a2 σ0 = (r, σ')) → Qk r σ') : K_X11_read l V a1 a2 σ0 Qk := by
  refine kF_X11_read q.1.1 (fun r σ' p0 p1 p2 => h9ret r σ' ?_ p1 p2)
  exact INV_fx (FX_tr FX_rf p1 (by intro id h9; (try dsimp only at h9) <;> unfold Sf <;> first | exact h9.elim | omega) (by intro id k h9; (try dsimp only at h9) <;> unfold Sf Ff <;> first | exact h9.elim | omega)) p0 q
set_option maxHeartbeats 4000000 in
theorem L3_X11_shift {l : Launch} {V : Vx} {a1 : Int32} {a2 : Int32} {a3 : Int32} {a4 : Int32} {a5 : Int32} {σ0 : Sg} {Qk : Int32 → Sg → Prop} (q : INV V σ0) (h9ret : ∀ (r : Int32) (σ' : Sg), INV V σ' → (FX (fun id => (53 ≤ id ∧ id ≤ 63)) (fun _ _ => False) σ0 σ') → (F_X11_shift a1 a2 a3 a4 a5 σ0 = (r, σ')) → Qk r σ') : K_X11_shift l V a1 a2 a3 a4 a5 σ0 Qk := by
  refine kF_X11_shift q.1.1 (fun r σ' p0 p1 p2 => h9ret r σ' ?_ p1 p2)
  exact INV_fx (FX_tr FX_rf p1 (by intro id h9; (try dsimp only at h9) <;> unfold Sf <;> first | exact h9.elim | omega) (by intro id k h9; (try dsimp only at h9) <;> unfold Sf Ff <;> first | exact h9.elim | omega)) p0 q
set_option maxHeartbeats 4000000 in
theorem L3_X12_mower {l : Launch} {V : Vx} {a1 : Int32} {a2 : Int32} {σ0 : Sg} {Qk : Int32 → Sg → Prop} (q : INV V σ0) (h9ret : ∀ (r : Int32) (σ' : Sg), INV V σ' → (Fr [74, 103, 104, 105, 106, 107, 108, 109, 110] [0, 2] σ0 σ') → ((gi σ' 74 0).toInt = (gi σ0 74 0).toInt ∨ (gi σ' 74 0).toInt = (gi σ0 74 0).toInt + 1) → (((a1.toInt < 0 ∨ 6 < a1.toInt) → r.toInt = -1 ∧ (gi σ' 74 0).toInt = (gi σ0 74 0).toInt) ∧ (0 ≤ a1.toInt → a1.toInt ≤ 6 → ((a2.toInt < 0 ∨ 9 < a2.toInt) → r.toInt = -2 ∧ (gi σ' 74 0).toInt = (gi σ0 74 0).toInt) ∧ (0 ≤ a2.toInt → a2.toInt ≤ 9 → (6 ≤ (gi σ0 74 0).toInt → r.toInt = -4 ∧ (gi σ' 74 0).toInt = (gi σ0 74 0).toInt) ∧ ((gi σ0 74 0).toInt < 6 → r.toInt = (gi σ0 74 0).toInt ∧ (gi σ' 74 0).toInt = (gi σ0 74 0).toInt + 1)))) → (F_X12_mower a1 a2 σ0 = (r, σ')) → Qk r σ') : K_X12_mower l V a1 a2 σ0 Qk := by
  refine kF_X12_mower q.2.1 q.2.2.2.2.1 (fun r σ' p0 p1 p2 p3 p4 p5 => h9ret r σ' ?_ p1 p3 p4 p5)
  refine INV_m p1 (by decide +kernel) q ?_
  obtain ⟨-, q1, q2, q3, q4, q5, q6, q7⟩ := q
  exact ⟨p0, by rw [p1.2.1 12 (by decide +kernel), p1.2.1 11 (by decide +kernel)]; exact q2, by rw [p1.2.1 50 (by decide +kernel), p1.2.1 11 (by decide +kernel)]; exact q3, p2, PLI_fr q5 p1 (by decide +kernel) (by decide +kernel), by rw [p1.2.1 1 (by decide +kernel)]; exact q6, by rw [p1.2.1 52 (by decide +kernel)]; exact q7⟩
set_option maxHeartbeats 4000000 in
theorem L3_X12_row {l : Launch} {V : Vx} {a1 : Int32} {a2 : Int32} {a3 : Int32} {σ0 : Sg} {Qk : Int32 → Sg → Prop} (q : INV V σ0) (h9ret : ∀ (r : Int32) (σ' : Sg), INV V σ' → (Fr [109] [] σ0 σ') → (F_X12_row a1 a2 a3 σ0 = (r, σ')) → Qk r σ') : K_X12_row l V a1 a2 a3 σ0 Qk := by
  refine kF_X12_row q.2.1 (fun r σ' p0 p1 p2 => h9ret r σ' ?_ p1 p2)
  refine INV_m p1 (by decide +kernel) q ?_
  obtain ⟨-, q1, q2, q3, q4, q5, q6, q7⟩ := q
  exact ⟨p0, by rw [p1.2.1 12 (by decide +kernel), p1.2.1 11 (by decide +kernel)]; exact q2, by rw [p1.2.1 50 (by decide +kernel), p1.2.1 11 (by decide +kernel)]; exact q3, PL_fr q4 p1 (by decide +kernel) (by decide +kernel), PLI_fr q5 p1 (by decide +kernel) (by decide +kernel), by rw [p1.2.1 1 (by decide +kernel)]; exact q6, by rw [p1.2.1 52 (by decide +kernel)]; exact q7⟩
set_option maxHeartbeats 4000000 in
theorem L3_X12_place {l : Launch} {V : Vx} {a1 : Int32} {a2 : Int32} {σ0 : Sg} {Qk : Int32 → Sg → Prop} (q : INV V σ0) (h9ret : ∀ (r : Int32) (σ' : Sg), INV V σ' → (Fr [110] [] σ0 σ') → (F_X12_place a1 a2 σ0 = (r, σ')) → Qk r σ') : K_X12_place l V a1 a2 σ0 Qk := by
  refine kF_X12_place q.2.1 q.2.2.2.2.1 (fun r σ' p0 p1 p2 p3 => h9ret r σ' ?_ p1 p3)
  refine INV_m p1 (by decide +kernel) q ?_
  obtain ⟨-, q1, q2, q3, q4, q5, q6, q7⟩ := q
  exact ⟨p0, by rw [p1.2.1 12 (by decide +kernel), p1.2.1 11 (by decide +kernel)]; exact q2, by rw [p1.2.1 50 (by decide +kernel), p1.2.1 11 (by decide +kernel)]; exact q3, p2, PLI_fr q5 p1 (by decide +kernel) (by decide +kernel), by rw [p1.2.1 1 (by decide +kernel)]; exact q6, by rw [p1.2.1 52 (by decide +kernel)]; exact q7⟩
set_option maxHeartbeats 4000000 in
theorem L3_X12_book {l : Launch} {V : Vx} {a1 : Int32} {σ0 : Sg} {Qk : Int32 → Sg → Prop} (q : INV V σ0) (h9ret : ∀ (r : Int32) (σ' : Sg), INV V σ' → (Fr [74, 148] [46] σ0 σ') → (PBA r a1 (gi σ0 74 46) (gi σ' 74 46) ((gi σ0 74 0).toInt - 1) 8) → Qk r σ') : K_X12_book l V a1 σ0 Qk := by
  refine kt_X12_book q.2.1 (fun r σ' p0 p1 p2 => h9ret r σ' ?_ p1 p2)
  refine INV_m p1 (by decide +kernel) q ?_
  obtain ⟨-, q1, q2, q3, q4, q5, q6, q7⟩ := q
  exact ⟨p0, by rw [p1.2.1 12 (by decide +kernel), p1.2.1 11 (by decide +kernel)]; exact q2, by rw [p1.2.1 50 (by decide +kernel), p1.2.1 11 (by decide +kernel)]; exact q3, PL_fr q4 p1 (by decide +kernel) (by decide +kernel), PLI_fr q5 p1 (by decide +kernel) (by decide +kernel), by rw [p1.2.1 1 (by decide +kernel)]; exact q6, by rw [p1.2.1 52 (by decide +kernel)]; exact q7⟩
set_option maxHeartbeats 4000000 in
theorem L3_X12_image {l : Launch} {V : Vx} {σ0 : Sg} {Qk : Int32 → Sg → Prop} (q : INV V σ0) (h9ret : ∀ (r : Int32) (σ' : Sg), INV V σ' → (Fr [74, 156, 157, 158, 159, 160, 161, 162, 163, 164, 165, 166, 167, 168] [49, 50, 51, 52, 53, 54, 55] σ0 σ') → ((gi σ' 74 51).toInt = (gi σ0 74 0).toInt) → ((gi σ' 74 52).toInt = (gi σ0 74 1).toInt) → ((gi σ' 74 50).toInt = (gi σ0 74 12).toInt) → ((gi σ' 74 54).toInt = (gi σ0 74 45).toInt) → ((gi σ' 74 55).toInt = (gi σ0 74 46).toInt) → ((gi σ' 74 49).toInt = 1) → (r.toInt = (gi σ0 74 0).toInt) → ((gi σ' 74 53).toInt = (gi σ0 74 41).toInt) → (F_X12_image σ0 = (r, σ')) → Qk r σ') : K_X12_image l V σ0 Qk := by
  refine kF_X12_image q.2.1 q.2.2.2.2.1 (fun r σ' p0 p1 p2 p3 p4 p5 p6 p7 p8 p9 p10 p11 => h9ret r σ' ?_ p1 p2 p3 p4 p6 p7 p8 p9 p10 p11)
  refine INV_m p1 (by decide +kernel) q ?_
  obtain ⟨-, q1, q2, q3, q4, q5, q6, q7⟩ := q
  exact ⟨p0, by rw [p1.2.1 12 (by decide +kernel), p1.2.1 11 (by decide +kernel)]; exact q2, by rw [p4, p1.2.1 11 (by decide +kernel)]; exact q2, PL_fr q4 p1 (by decide +kernel) (by decide +kernel), p5, by rw [p1.2.1 1 (by decide +kernel)]; exact q6, by rw [p3]; exact q6⟩
set_option maxHeartbeats 4000000 in
theorem L3_X12_undo {l : Launch} {V : Vx} {σ0 : Sg} {Qk : Int32 → Sg → Prop} (q : INV V σ0) (h9ret : ∀ (r : Int32) (σ' : Sg), INV V σ' → (Fr [74, 103, 104, 105, 106, 107, 108, 109, 110, 142, 143, 144, 147, 148] [0, 1, 2, 12, 41, 45, 46] σ0 σ') → ((gi σ' 74 1).toInt ≤ 9999) → ((gi σ' 74 12).toInt < (gi σ' 74 11).toInt) → (((gi σ0 74 49).toInt = 0 → r.toInt = -3 ∧ (gi σ' 74 0).toInt = (gi σ0 74 0).toInt ∧ (gi σ' 74 45).toInt = (gi σ0 74 45).toInt ∧ (gi σ' 74 46).toInt = (gi σ0 74 46).toInt ∧ (gi σ' 74 1).toInt = (gi σ0 74 1).toInt ∧ (gi σ' 74 41).toInt = (gi σ0 74 41).toInt) ∧ ((gi σ0 74 49).toInt ≠ 0 → r.toInt = (gi σ0 74 51).toInt ∧ (gi σ' 74 0).toInt = (gi σ0 74 51).toInt ∧ (gi σ' 74 45).toInt = (gi σ0 74 54).toInt ∧ (gi σ' 74 46).toInt = (gi σ0 74 55).toInt ∧ (gi σ' 74 1).toInt = (gi σ0 74 52).toInt ∧ (gi σ' 74 41).toInt = (gi σ0 74 53).toInt)) → (F_X12_undo σ0 = (r, σ')) → Qk r σ') : K_X12_undo l V σ0 Qk := by
  refine kF_X12_undo q.2.1 q.2.2.2.2.1 q.2.2.2.2.2.1 q.2.2.2.2.2.2.1 q.2.2.2.2.2.2.2 q.2.2.1 q.2.2.2.1 (fun r σ' p0 p1 p2 p3 p4 p5 p6 => h9ret r σ' ?_ p1 p3 p4 p5 p6)
  refine INV_m p1 (by decide +kernel) q ?_
  obtain ⟨-, q1, q2, q3, q4, q5, q6, q7⟩ := q
  exact ⟨p0, p4, by rw [p1.2.1 50 (by decide +kernel), p1.2.1 11 (by decide +kernel)]; exact q3, p2, PLI_fr q5 p1 (by decide +kernel) (by decide +kernel), p3, by rw [p1.2.1 52 (by decide +kernel)]; exact q7⟩
set_option maxHeartbeats 4000000 in
theorem L3_X12_act {l : Launch} {V : Vx} {a1 : Int32} {a2 : Int32} {a3 : Int32} {σ0 : Sg} {Qk : Int32 → Sg → Prop} (q : INV V σ0) (h9ret : ∀ (r : Int32) (σ' : Sg), INV V σ' → (Fr [74, 170] [69] σ0 σ') → (F_X12_act a1 a2 a3 σ0 = (r, σ')) → Qk r σ') : K_X12_act l V a1 a2 a3 σ0 Qk := by
  refine kF_X12_act q.2.1 (fun r σ' p0 p1 p2 => h9ret r σ' ?_ p1 p2)
  refine INV_m p1 (by decide +kernel) q ?_
  obtain ⟨-, q1, q2, q3, q4, q5, q6, q7⟩ := q
  exact ⟨p0, by rw [p1.2.1 12 (by decide +kernel), p1.2.1 11 (by decide +kernel)]; exact q2, by rw [p1.2.1 50 (by decide +kernel), p1.2.1 11 (by decide +kernel)]; exact q3, PL_fr q4 p1 (by decide +kernel) (by decide +kernel), PLI_fr q5 p1 (by decide +kernel) (by decide +kernel), by rw [p1.2.1 1 (by decide +kernel)]; exact q6, by rw [p1.2.1 52 (by decide +kernel)]; exact q7⟩
set_option maxHeartbeats 4000000 in
theorem L3_X12_trace {l : Launch} {V : Vx} {a1 : Int32} {σ0 : Sg} {Qk : Int32 → Sg → Prop} (q : INV V σ0) (h9ret : ∀ (r : Int32) (σ' : Sg), INV V σ' → (Fr [] [] σ0 σ') → (F_X12_trace a1 σ0 = (r, σ')) → Qk r σ') : K_X12_trace l V a1 σ0 Qk := by
  refine kF_X12_trace q.2.1 (fun r σ' p0 p1 p2 => h9ret r σ' ?_ p1 p2)
  refine INV_m p1 (by decide +kernel) q ?_
  obtain ⟨-, q1, q2, q3, q4, q5, q6, q7⟩ := q
  exact ⟨p0, by rw [p1.2.1 12 (by decide +kernel), p1.2.1 11 (by decide +kernel)]; exact q2, by rw [p1.2.1 50 (by decide +kernel), p1.2.1 11 (by decide +kernel)]; exact q3, PL_fr q4 p1 (by decide +kernel) (by decide +kernel), PLI_fr q5 p1 (by decide +kernel) (by decide +kernel), by rw [p1.2.1 1 (by decide +kernel)]; exact q6, by rw [p1.2.1 52 (by decide +kernel)]; exact q7⟩
set_option maxHeartbeats 4000000 in
theorem L3_X12_taken {l : Launch} {V : Vx} {a1 : Int32} {a2 : Int32} {σ0 : Sg} {Qk : Int32 → Sg → Prop} (q : INV V σ0) (h9ret : ∀ (r : Int32) (σ' : Sg), INV V σ' → (Fr [] [] σ0 σ') → (F_X12_taken a1 a2 σ0 = (r, σ')) → Qk r σ') : K_X12_taken l V a1 a2 σ0 Qk := by
  refine kF_X12_taken q.2.1 (fun r σ' p0 p1 p2 => h9ret r σ' ?_ p1 p2)
  refine INV_m p1 (by decide +kernel) q ?_
  obtain ⟨-, q1, q2, q3, q4, q5, q6, q7⟩ := q
  exact ⟨p0, by rw [p1.2.1 12 (by decide +kernel), p1.2.1 11 (by decide +kernel)]; exact q2, by rw [p1.2.1 50 (by decide +kernel), p1.2.1 11 (by decide +kernel)]; exact q3, PL_fr q4 p1 (by decide +kernel) (by decide +kernel), PLI_fr q5 p1 (by decide +kernel) (by decide +kernel), by rw [p1.2.1 1 (by decide +kernel)]; exact q6, by rw [p1.2.1 52 (by decide +kernel)]; exact q7⟩
set_option maxHeartbeats 4000000 in
theorem L3_X12_tape {l : Launch} {V : Vx} {a1 : Int32} {a2 : Int32} {a3 : Int32} {σ0 : Sg} {Qk : Int32 → Sg → Prop} (q : INV V σ0) (h9ret : ∀ (r : Int32) (σ' : Sg), INV V σ' → (Fr [171, 172, 173] [] σ0 σ') → (F_X12_tape a1 a2 a3 σ0 = (r, σ')) → Qk r σ') : K_X12_tape l V a1 a2 a3 σ0 Qk := by
  refine kF_X12_tape q.2.1 (fun r σ' p0 p1 p2 => h9ret r σ' ?_ p1 p2)
  refine INV_m p1 (by decide +kernel) q ?_
  obtain ⟨-, q1, q2, q3, q4, q5, q6, q7⟩ := q
  exact ⟨p0, by rw [p1.2.1 12 (by decide +kernel), p1.2.1 11 (by decide +kernel)]; exact q2, by rw [p1.2.1 50 (by decide +kernel), p1.2.1 11 (by decide +kernel)]; exact q3, PL_fr q4 p1 (by decide +kernel) (by decide +kernel), PLI_fr q5 p1 (by decide +kernel) (by decide +kernel), by rw [p1.2.1 1 (by decide +kernel)]; exact q6, by rw [p1.2.1 52 (by decide +kernel)]; exact q7⟩
set_option maxHeartbeats 4000000 in
theorem L3_X12_item {l : Launch} {V : Vx} {a1 : Int32} {a2 : Int32} {a3 : Int64} {σ0 : Sg} {Qk : Int32 → Sg → Prop} (q : INV V σ0) (h9ret : ∀ (r : Int32) (σ' : Sg), INV V σ' → (Fr [173] [] σ0 σ') → (F_X12_item a1 a2 a3 σ0 = (r, σ')) → Qk r σ') : K_X12_item l V a1 a2 a3 σ0 Qk := by
  refine kF_X12_item q.2.1 (fun r σ' p0 p1 p2 => h9ret r σ' ?_ p1 p2)
  refine INV_m p1 (by decide +kernel) q ?_
  obtain ⟨-, q1, q2, q3, q4, q5, q6, q7⟩ := q
  exact ⟨p0, by rw [p1.2.1 12 (by decide +kernel), p1.2.1 11 (by decide +kernel)]; exact q2, by rw [p1.2.1 50 (by decide +kernel), p1.2.1 11 (by decide +kernel)]; exact q3, PL_fr q4 p1 (by decide +kernel) (by decide +kernel), PLI_fr q5 p1 (by decide +kernel) (by decide +kernel), by rw [p1.2.1 1 (by decide +kernel)]; exact q6, by rw [p1.2.1 52 (by decide +kernel)]; exact q7⟩
set_option maxHeartbeats 4000000 in
theorem L3_X12_read {l : Launch} {V : Vx} {a1 : Int32} {a2 : Int32} {σ0 : Sg} {Qk : Int64 → Sg → Prop} (q : INV V σ0) (h9ret : ∀ (r : Int64) (σ' : Sg), INV V σ' → (Fr [] [] σ0 σ') → (F_X12_read a1 a2 σ0 = (r, σ')) → Qk r σ') : K_X12_read l V a1 a2 σ0 Qk := by
  refine kF_X12_read q.2.1 (fun r σ' p0 p1 p2 => h9ret r σ' ?_ p1 p2)
  refine INV_m p1 (by decide +kernel) q ?_
  obtain ⟨-, q1, q2, q3, q4, q5, q6, q7⟩ := q
  exact ⟨p0, by rw [p1.2.1 12 (by decide +kernel), p1.2.1 11 (by decide +kernel)]; exact q2, by rw [p1.2.1 50 (by decide +kernel), p1.2.1 11 (by decide +kernel)]; exact q3, PL_fr q4 p1 (by decide +kernel) (by decide +kernel), PLI_fr q5 p1 (by decide +kernel) (by decide +kernel), by rw [p1.2.1 1 (by decide +kernel)]; exact q6, by rw [p1.2.1 52 (by decide +kernel)]; exact q7⟩
set_option maxHeartbeats 4000000 in
theorem L3_X12_shift {l : Launch} {V : Vx} {a1 : Int32} {a2 : Int32} {a3 : Int32} {a4 : Int32} {a5 : Int32} {σ0 : Sg} {Qk : Int32 → Sg → Prop} (q : INV V σ0) (h9ret : ∀ (r : Int32) (σ' : Sg), INV V σ' → (Fr [173, 174] [] σ0 σ') → (F_X12_shift a1 a2 a3 a4 a5 σ0 = (r, σ')) → Qk r σ') : K_X12_shift l V a1 a2 a3 a4 a5 σ0 Qk := by
  refine kF_X12_shift q.2.1 (fun r σ' p0 p1 p2 => h9ret r σ' ?_ p1 p2)
  refine INV_m p1 (by decide +kernel) q ?_
  obtain ⟨-, q1, q2, q3, q4, q5, q6, q7⟩ := q
  exact ⟨p0, by rw [p1.2.1 12 (by decide +kernel), p1.2.1 11 (by decide +kernel)]; exact q2, by rw [p1.2.1 50 (by decide +kernel), p1.2.1 11 (by decide +kernel)]; exact q3, PL_fr q4 p1 (by decide +kernel) (by decide +kernel), PLI_fr q5 p1 (by decide +kernel) (by decide +kernel), by rw [p1.2.1 1 (by decide +kernel)]; exact q6, by rw [p1.2.1 52 (by decide +kernel)]; exact q7⟩
/-! what both states have alike -/
noncomputable def XALL (σ σ' : Sg) : Prop := (gi σ' 1 1).toInt = (gi σ 1 1).toInt ∧ (gi σ' 17 1).toInt = (gi σ 17 1).toInt ∧ (gi σ' 0 3).toInt = (gi σ 0 3).toInt ∧ (gi σ' 11 1).toInt = (gi σ 11 1).toInt ∧ (gi σ' 27 1).toInt = (gi σ 27 1).toInt ∧ (gi σ' 13 1).toInt = (gi σ 13 1).toInt ∧ (gi σ' 29 1).toInt = (gi σ 29 1).toInt ∧ (gi σ' 1 9).toInt = (gi σ 1 9).toInt ∧ (gi σ' 17 9).toInt = (gi σ 17 9).toInt ∧ (gi σ' 9 1).toInt = (gi σ 9 1).toInt ∧ (gi σ' 25 1).toInt = (gi σ 25 1).toInt
noncomputable def MALL (σ σ' : Sg) : Prop := (gi σ' 74 0).toInt = (gi σ 74 0).toInt ∧ (gi σ' 74 51).toInt = (gi σ 74 51).toInt ∧ (gi σ' 74 49).toInt = (gi σ 74 49).toInt ∧ (gi σ' 74 45).toInt = (gi σ 74 45).toInt ∧ (gi σ' 74 54).toInt = (gi σ 74 54).toInt ∧ (gi σ' 74 46).toInt = (gi σ 74 46).toInt ∧ (gi σ' 74 55).toInt = (gi σ 74 55).toInt ∧ (gi σ' 74 1).toInt = (gi σ 74 1).toInt ∧ (gi σ' 74 52).toInt = (gi σ 74 52).toInt ∧ (gi σ' 74 41).toInt = (gi σ 74 41).toInt ∧ (gi σ' 74 53).toInt = (gi σ 74 53).toInt
theorem XALL_xa {σ σ' : Sg} (h : XA σ σ') : XALL σ σ' := ⟨by rw [h.1 1 (by decide +kernel)], by rw [h.1 17 (by decide +kernel)], by rw [h.1 0 (by decide +kernel)], by rw [h.1 11 (by decide +kernel)], by rw [h.1 27 (by decide +kernel)], by rw [h.1 13 (by decide +kernel)], by rw [h.1 29 (by decide +kernel)], by rw [h.1 1 (by decide +kernel)], by rw [h.1 17 (by decide +kernel)], by rw [h.1 9 (by decide +kernel)], by rw [h.1 25 (by decide +kernel)]⟩
theorem MALL_ma {σ σ' : Sg} (h : MA σ σ') : MALL σ σ' := ⟨by rw [h 74 (by decide +kernel) (by decide +kernel)], by rw [h 74 (by decide +kernel) (by decide +kernel)], by rw [h 74 (by decide +kernel) (by decide +kernel)], by rw [h 74 (by decide +kernel) (by decide +kernel)], by rw [h 74 (by decide +kernel) (by decide +kernel)], by rw [h 74 (by decide +kernel) (by decide +kernel)], by rw [h 74 (by decide +kernel) (by decide +kernel)], by rw [h 74 (by decide +kernel) (by decide +kernel)], by rw [h 74 (by decide +kernel) (by decide +kernel)], by rw [h 74 (by decide +kernel) (by decide +kernel)], by rw [h 74 (by decide +kernel) (by decide +kernel)]⟩
noncomputable def RSC (σ : Sg) : Prop := (gi σ 1 1).toInt = (gi σ 74 0).toInt ∧ (gi σ 17 1).toInt = (gi σ 74 51).toInt ∧ (gi σ 0 3).toInt = (gi σ 74 49).toInt ∧ (gi σ 11 1).toInt = (gi σ 74 45).toInt ∧ (gi σ 27 1).toInt = (gi σ 74 54).toInt ∧ (gi σ 13 1).toInt = (gi σ 74 46).toInt ∧ (gi σ 29 1).toInt = (gi σ 74 55).toInt ∧ (gi σ 1 9).toInt = (gi σ 74 1).toInt ∧ (gi σ 17 9).toInt = (gi σ 74 52).toInt ∧ (gi σ 9 1).toInt = 3 * (gi σ 74 41).toInt ∧ (gi σ 25 1).toInt = 3 * (gi σ 74 53).toInt
theorem TAP_x {S : Nat → Prop} {F : Nat → Nat → Prop} {σ σ' : Sg} (f : FX S F σ σ') (h1 : ∀ id, (52 ≤ id ∧ id ≤ 63) ∨ (171 ≤ id ∧ id ≤ 173) → ¬ S id) (h2 : ∀ id k, (52 ≤ id ∧ id ≤ 63) ∨ (171 ≤ id ∧ id ≤ 173) → ¬ F id k) (q : TAP σ) : TAP σ' := fun t ht => by
  obtain ⟨q1, q2, q3, q4⟩ := q t ht
  have e : ∀ id k, (52 ≤ id ∧ id ≤ 63) ∨ (171 ≤ id ∧ id ≤ 173) → gi σ' id k = gi σ id k := fun id k h => f.1 id k (h1 id h) (h2 id k h)
  have g : ∀ id k, (52 ≤ id ∧ id ≤ 63) ∨ (171 ≤ id ∧ id ≤ 173) → gl σ' id k = gl σ id k := fun id k h => f.2.1 id k (h1 id h)
  rw [e _ _ (by omega), e 171 _ (by omega), e _ _ (by omega), e 172 _ (by omega)]
  exact ⟨q1, q2, q3, fun i hi => by rw [g _ _ (by omega), g 173 _ (by omega)]; exact q4 i hi⟩
theorem TAP_m {S F : List Nat} {σ σ' : Sg} (f : Fr S F σ σ') (h : ∀ id ∈ S, 74 ≤ id ∧ (id < 171 ∨ 173 < id)) (q : TAP σ) : TAP σ' := fun t ht => by
  obtain ⟨q1, q2, q3, q4⟩ := q t ht
  have n : ∀ id, id < 74 ∨ (171 ≤ id ∧ id ≤ 173) → id ∉ S := fun id h1 h2 => by
    have := h id h2
    omega
  have e : ∀ id k, id < 74 ∨ (171 ≤ id ∧ id ≤ 173) → gi σ' id k = gi σ id k := fun id k h => congrFun (f.1 id (n id h)).1 k
  have g : ∀ id k, id < 74 ∨ (171 ≤ id ∧ id ≤ 173) → gl σ' id k = gl σ id k := fun id k h => congrFun (f.1 id (n id h)).2 k
  rw [e _ _ (by omega), e 171 _ (by omega), e _ _ (by omega), e 172 _ (by omega)]
  exact ⟨q1, q2, q3, fun i hi => by rw [g _ _ (by omega), g 173 _ (by omega)]; exact q4 i hi⟩
theorem TAP_b {V : Vx} {σ : Sg} (m0 : XI V σ) : ∀ t : Nat, t < 6 → 0 ≤ (gi σ (52 + 2 * t) 2).toInt ∧ (gi σ (52 + 2 * t) 2).toInt ≤ 60 := fun t ht => XI_c1 m0 (lim_T0_2 (show isT (52 + 2 * t) from by
  rcases t with _ | _ | _ | _ | _ | _ | t
  · exact Or.inl rfl
  · exact Or.inr (Or.inl rfl)
  · exact Or.inr (Or.inr (Or.inl rfl))
  · exact Or.inr (Or.inr (Or.inr (Or.inl rfl)))
  · exact Or.inr (Or.inr (Or.inr (Or.inr (Or.inl rfl))))
  · exact Or.inr (Or.inr (Or.inr (Or.inr (Or.inr rfl))))
  · omega))
noncomputable def REL (σ : Sg) : Prop := RSC σ ∧ TAP σ ∧ REL2 σ
/-! the reading of E: by parts within parts, and by a pile; both alike -/
noncomputable abbrev Tok := (Nat × Nat × Nat) ⊕ Nat
noncomputable abbrev Tok.T (f s n : Nat) : Tok := Sum.inl (f, s, n)
noncomputable abbrev Tok.N : Tok := Sum.inr 0
noncomputable abbrev Tok.A : Tok := Sum.inr 1
noncomputable abbrev Tok.O : Tok := Sum.inr 2
noncomputable abbrev PRd := Bool × Nat × List Tok
noncomputable def pch (nx : Nat → Int) (op : Int) (tk : Tok) (f : Nat → PRd) : Nat → Nat → PRd
  | 0, p => (true, p, [])
  | n + 1, p => if nx p = op then (if (f (p + 1)).1 = true then ((pch nx op tk f n (f (p + 1)).2.1).1, (pch nx op tk f n (f (p + 1)).2.1).2.1, (f (p + 1)).2.2 ++ tk :: (pch nx op tk f n (f (p + 1)).2.1).2.2) else (false, (f (p + 1)).2.1, [])) else (true, p, [])
noncomputable def pchain (nx : Nat → Int) (op : Int) (tk : Tok) (f : Nat → PRd) (p : Nat) : PRd :=
  if (f p).1 = true then ((pch nx op tk f 101 (f p).2.1).1, (pch nx op tk f 101 (f p).2.1).2.1, (f p).2.2 ++ (pch nx op tk f 101 (f p).2.1).2.2) else (false, (f p).2.1, [])
noncomputable def pboth (nx : Nat → Int) (f : Nat → PRd) (p : Nat) : PRd := pchain nx 38 .A f p
noncomputable def peither (nx : Nat → Int) (f : Nat → PRd) (p : Nat) : PRd := pchain nx 124 .O (pboth nx f) p
noncomputable def ppart (nx : Nat → Int) (test : Nat → PRd) : Nat → Nat → PRd
  | 0, p => test p
  | k + 1, p => if nx p = 33 then (if (ppart nx test k (p + 1)).1 = true then (true, (ppart nx test k (p + 1)).2.1, (ppart nx test k (p + 1)).2.2 ++ [.N]) else (false, (ppart nx test k (p + 1)).2.1, []))
      else if nx p = 40 then (if (peither nx (ppart nx test k) (p + 1)).1 = true then (if nx (peither nx (ppart nx test k) (p + 1)).2.1 = 41 then (true, (peither nx (ppart nx test k) (p + 1)).2.1 + 1, (peither nx (ppart nx test k) (p + 1)).2.2) else (false, (peither nx (ppart nx test k) (p + 1)).2.1, [])) else (false, (peither nx (ppart nx test k) (p + 1)).2.1, []))
      else test p
noncomputable def opn : List Int → Nat
  | [] => 0
  | b :: S => if b = 33 ∨ b = 40 then opn S + 1 else opn S
noncomputable def tokOf (b : Int) : Tok := if b = 33 then .N else if b = 38 then .A else .O
noncomputable def popN : List Int → List Int
  | [] => []
  | b :: S => if b = 33 then popN S else b :: S
noncomputable def nots : List Int → List Tok
  | [] => []
  | b :: S => if b = 33 then .N :: nots S else []
noncomputable def setS (s : Int) : List Int → List Int
  | [] => []
  | b :: S => if b = 38 ∨ (b = 124 ∧ s ≠ 38) then setS s S else b :: S
noncomputable def setO (s : Int) : List Int → List Tok
  | [] => []
  | b :: S => if b = 38 ∨ (b = 124 ∧ s ≠ 38) then tokOf b :: setO s S else []
noncomputable def pend (nx : Nat → Int) (rn : Bool → List Int → Nat → List Tok → PRd) (p : Nat) (o : List Tok) : List Int → PRd
  | [] => (true, p, o)
  | _ :: S => if nx p = 41 then rn false (popN S) (p + 1) (o ++ nots S) else (false, p, [])
noncomputable def prun (nx : Nat → Int) (test : Nat → PRd) : Nat → Bool → List Int → Nat → List Tok → PRd
  | 0, _, _, p, _ => (false, p, [])
  | n + 1, true, S, p, o => if nx p = 33 ∨ nx p = 40 then (if opn S = 4 then (false, p, []) else prun nx test n true (nx p :: S) (p + 1) o)
      else if (test p).1 = true then prun nx test n false (popN S) (test p).2.1 (o ++ (test p).2.2 ++ nots S) else (false, (test p).2.1, [])
  | n + 1, false, S, p, o => if nx p = 38 ∨ nx p = 124 then prun nx test n true (nx p :: setS (nx p) S) (p + 1) (o ++ setO (nx p) S)
      else pend nx (prun nx test n) p (o ++ setO 124 S) (setS 124 S)
noncomputable def Rch (nx : Nat → Int) (test : Nat → PRd) (w : Bool) (S : List Int) (p : Nat) (o : List Tok) (w' : Bool) (S' : List Int) (p' : Nat) (o' : List Tok) : Prop :=
  ∃ j, p + j ≤ p' ∧ ∀ k, prun nx test (j + k) w S p o = prun nx test k w' S' p' o'
noncomputable def Fls (nx : Nat → Int) (test : Nat → PRd) (w : Bool) (S : List Int) (p : Nat) (o : List Tok) (p' : Nat) : Prop :=
  ∃ j, p + j ≤ p' ∧ ∀ k, prun nx test (j + 1 + k) w S p o = (false, p', [])
theorem Rch_rf {nx test w S p o} : Rch nx test w S p o w S p o := ⟨0, by omega, fun k => by rw [Nat.zero_add]⟩
theorem Rch_tr {nx test w S p o w1 S1 p1 o1 w2 S2 p2 o2} (h : Rch nx test w S p o w1 S1 p1 o1) (g : Rch nx test w1 S1 p1 o1 w2 S2 p2 o2) : Rch nx test w S p o w2 S2 p2 o2 := by
  obtain ⟨j, hj, h⟩ := h
  obtain ⟨i, hi, g⟩ := g
  exact ⟨j + i, by omega, fun k => by rw [Nat.add_assoc, h, g]⟩
theorem Rch_fl {nx test w S p o w1 S1 p1 o1 p2} (h : Rch nx test w S p o w1 S1 p1 o1) (g : Fls nx test w1 S1 p1 o1 p2) : Fls nx test w S p o p2 := by
  obtain ⟨j, hj, h⟩ := h
  obtain ⟨i, hi, g⟩ := g
  exact ⟨j + i, by omega, fun k => by rw [show j + i + 1 + k = j + (i + 1 + k) from by omega, h, g]⟩
theorem Rch_s {nx test w S p o w1 S1 p1 o1} (hp : p + 1 ≤ p1) (h : ∀ k, prun nx test (k + 1) w S p o = prun nx test k w1 S1 p1 o1) : Rch nx test w S p o w1 S1 p1 o1 :=
  ⟨1, hp, fun k => by rw [Nat.add_comm 1 k, h]⟩
theorem Fls_s {nx test w S p o p1} (hp : p ≤ p1) (h : ∀ k, prun nx test (k + 1) w S p o = (false, p1, [])) : Fls nx test w S p o p1 :=
  ⟨0, by omega, fun k => by rw [show 0 + 1 + k = k + 1 from by omega, h]⟩
/-- what a reading step keeps to -/
noncomputable abbrev PSt (nx : Nat → Int) (test : Nat → PRd) (e : Nat) : Prop :=
  (∀ p, e ≤ p → nx p = -1) ∧ (∀ p, (test p).1 = true → p + 3 ≤ (test p).2.1 ∧ (test p).2.1 ≤ e) ∧ (∀ p, (test p).1 = false → p ≤ (test p).2.1) ∧ (∀ p, nx p = 33 ∨ nx p = 40 → (test p).1 = false ∧ (test p).2.1 = p)
theorem PSt.hn {nx : Nat → Int} {test : Nat → PRd} {e : Nat} (h : PSt nx test e) : ∀ p, e ≤ p → nx p = -1 := h.1
theorem PSt.t1 {nx : Nat → Int} {test : Nat → PRd} {e : Nat} (h : PSt nx test e) : ∀ p, (test p).1 = true → p + 3 ≤ (test p).2.1 ∧ (test p).2.1 ≤ e := h.2.1
theorem PSt.t2 {nx : Nat → Int} {test : Nat → PRd} {e : Nat} (h : PSt nx test e) : ∀ p, (test p).1 = false → p ≤ (test p).2.1 := h.2.2.1
theorem PSt.t3 {nx : Nat → Int} {test : Nat → PRd} {e : Nat} (h : PSt nx test e) : ∀ p, nx p = 33 ∨ nx p = 40 → (test p).1 = false ∧ (test p).2.1 = p := h.2.2.2
/-- f reads as the pile does, above S -/
noncomputable def SimP (nx : Nat → Int) (test : Nat → PRd) (e : Nat) (f : Nat → PRd) (S : List Int) : Prop :=
  ∀ p o, ((f p).1 = true → p + 1 ≤ (f p).2.1 ∧ (f p).2.1 ≤ e ∧ Rch nx test true S p o false (popN S) (f p).2.1 (o ++ (f p).2.2 ++ nots S)) ∧ ((f p).1 = false → p ≤ (f p).2.1 ∧ Fls nx test true S p o (f p).2.1)
theorem opn_c {b : Int} {S : List Int} : opn (b :: S) = if b = 33 ∨ b = 40 then opn S + 1 else opn S := Eq.trans rfl rfl
theorem popN_c {b : Int} {S : List Int} : popN (b :: S) = if b = 33 then popN S else b :: S := Eq.trans rfl rfl
theorem nots_c {b : Int} {S : List Int} : nots (b :: S) = if b = 33 then .N :: nots S else [] := Eq.trans rfl rfl
theorem setS_c {s b : Int} {S : List Int} : setS s (b :: S) = if b = 38 ∨ (b = 124 ∧ s ≠ 38) then setS s S else b :: S := Eq.trans rfl rfl
theorem setO_c {s b : Int} {S : List Int} : setO s (b :: S) = if b = 38 ∨ (b = 124 ∧ s ≠ 38) then tokOf b :: setO s S else [] := Eq.trans rfl rfl
theorem prun_t {nx test n S p o} : prun nx test (n + 1) true S p o = if nx p = 33 ∨ nx p = 40 then (if opn S = 4 then (false, p, []) else prun nx test n true (nx p :: S) (p + 1) o) else if (test p).1 = true then prun nx test n false (popN S) (test p).2.1 (o ++ (test p).2.2 ++ nots S) else (false, (test p).2.1, []) := Eq.trans rfl rfl
theorem prun_f {nx test n S p o} : prun nx test (n + 1) false S p o = if nx p = 38 ∨ nx p = 124 then prun nx test n true (nx p :: setS (nx p) S) (p + 1) (o ++ setO (nx p) S) else pend nx (prun nx test n) p (o ++ setO 124 S) (setS 124 S) := Eq.trans rfl rfl
theorem Sim_test {nx test e S p o} (H : PSt nx test e) (hx : ¬ (nx p = 33 ∨ nx p = 40)) : ((test p).1 = true → p + 1 ≤ (test p).2.1 ∧ (test p).2.1 ≤ e ∧ Rch nx test true S p o false (popN S) (test p).2.1 (o ++ (test p).2.2 ++ nots S)) ∧ ((test p).1 = false → p ≤ (test p).2.1 ∧ Fls nx test true S p o (test p).2.1) := by
  refine ⟨fun h => ?_, fun h => ?_⟩
  · obtain ⟨a, b⟩ := H.t1 p h
    exact ⟨by omega, b, Rch_s (by omega) (fun k => by rw [prun_t, if_neg hx, if_pos h])⟩
  · exact ⟨H.t2 p h, Fls_s (H.t2 p h) (fun k => by rw [prun_t, if_neg hx, if_neg (by rw [h]; decide)])⟩
theorem SimP_0 {nx test e S} (H : PSt nx test e) (hS : opn S = 4) : SimP nx test e (ppart nx test 0) S := by
  intro p o
  by_cases hx : nx p = 33 ∨ nx p = 40
  · obtain ⟨a, b⟩ := H.t3 p hx
    refine ⟨fun h => (by rw [show ppart nx test 0 p = test p from rfl, a] at h; cases h), fun _ => ?_⟩
    rw [show (ppart nx test 0 p).2.1 = p from b]
    exact ⟨Nat.le_refl _, Fls_s (Nat.le_refl _) (fun k => by rw [prun_t, if_pos hx, if_pos hS])⟩
  · exact Sim_test H hx
/-- f1 ( & f )*: with T on the pile above S -/
theorem pch_and {nx test e S} (H : PSt nx test e) {f : Nat → PRd} (hf : SimP nx test e f (38 :: S)) (hS : setS 38 S = S) (hO : setO 38 S = []) :
    ∀ n p T o, e < n + p → p ≤ e → (T = [] ∨ T = [38]) →
      ((pch nx 38 .A f n p).1 = true → p ≤ (pch nx 38 .A f n p).2.1 ∧ (pch nx 38 .A f n p).2.1 ≤ e ∧ nx (pch nx 38 .A f n p).2.1 ≠ 38 ∧ ∃ T' o', (T' = [] ∨ T' = [38]) ∧ o' ++ setO 38 T' = o ++ setO 38 T ++ (pch nx 38 .A f n p).2.2 ∧ Rch nx test false (T ++ S) p o false (T' ++ S) (pch nx 38 .A f n p).2.1 o')
      ∧ ((pch nx 38 .A f n p).1 = false → p ≤ (pch nx 38 .A f n p).2.1 ∧ Fls nx test false (T ++ S) p o (pch nx 38 .A f n p).2.1) := by
  intro n
  induction n with
  | zero => intro p T o h1 h2 _; omega
  | succ n ih =>
    intro p T o h1 h2 hT
    by_cases hx : nx p = 38
    · have hset : setS 38 (T ++ S) = S ∧ setO 38 (T ++ S) = setO 38 T := by
        rcases hT with rfl | rfl
        · exact ⟨hS, hO⟩
        · refine ⟨?_, ?_⟩
          · show setS 38 (38 :: S) = S
            unfold setS; rw [if_pos (Or.inl rfl)]; exact hS
          · show setO 38 (38 :: S) = setO 38 [38]
            unfold setO; rw [if_pos (Or.inl rfl), if_pos (Or.inl rfl), hO]; rfl
      have st : Rch nx test false (T ++ S) p o true (38 :: S) (p + 1) (o ++ setO 38 T) := Rch_s (Nat.le_refl _) (fun k => by rw [prun_f, if_pos (Or.inl hx), hx, hset.1, hset.2])
      have q := hf (p + 1) (o ++ setO 38 T)
      by_cases hr : (f (p + 1)).1 = true
      · obtain ⟨a, b, c⟩ := q.1 hr
        have e1 : pch nx 38 .A f (n + 1) p = ((pch nx 38 .A f n (f (p + 1)).2.1).1, (pch nx 38 .A f n (f (p + 1)).2.1).2.1, (f (p + 1)).2.2 ++ .A :: (pch nx 38 .A f n (f (p + 1)).2.1).2.2) := by
          show (if nx p = 38 then _ else _) = _
          rw [if_pos hx, if_pos hr]
        have n38 : popN (38 :: S) = 38 :: S ∧ nots (38 :: S) = [] := ⟨by unfold popN; rw [if_neg (by decide +kernel)], by unfold nots; rw [if_neg (by decide +kernel)]⟩
        rw [n38.1, n38.2, List.append_nil] at c
        have r := ih (f (p + 1)).2.1 [38] (o ++ setO 38 T ++ (f (p + 1)).2.2) (by omega) b (Or.inr rfl)
        rw [e1]
        refine ⟨fun h => ?_, fun h => ?_⟩
        · obtain ⟨r1, r2, r3, T', o', r4, r5, r6⟩ := r.1 h
          refine ⟨by show p ≤ (pch nx 38 .A f n (f (p + 1)).2.1).2.1; omega, r2, r3, T', o', r4, ?_, Rch_tr st (Rch_tr c r6)⟩
          rw [r5]
          show _ ++ [Tok.A] ++ _ = _
          simp only [List.append_assoc, List.cons_append, List.nil_append]
        · obtain ⟨r1, r2⟩ := r.2 h
          exact ⟨by show p ≤ (pch nx 38 .A f n (f (p + 1)).2.1).2.1; omega, Rch_fl st (Rch_fl c r2)⟩
      · have hr' : (f (p + 1)).1 = false := Bool.eq_false_iff.mpr hr
        have e1 : pch nx 38 .A f (n + 1) p = (false, (f (p + 1)).2.1, []) := by
          show (if nx p = 38 then _ else _) = _
          rw [if_pos hx, if_neg hr]
        rw [e1]
        obtain ⟨a, b⟩ := q.2 hr'
        exact ⟨fun h => (by cases h), fun _ => ⟨by show p ≤ (f (p + 1)).2.1; omega, Rch_fl st b⟩⟩
    · have e1 : pch nx 38 .A f (n + 1) p = (true, p, []) := by
        show (if nx p = 38 then _ else _) = _
        rw [if_neg hx]
      rw [e1]
      exact ⟨fun _ => ⟨Nat.le_refl _, h2, hx, T, o, hT, by simp only [List.append_nil], Rch_rf⟩, fun h => by cases h⟩
theorem SimP_both {nx test e S} (H : PSt nx test e) (he : e ≤ 100) {f : Nat → PRd} (hf : SimP nx test e f S) (hf2 : SimP nx test e f (38 :: S)) (hS : setS 38 S = S) (hO : setO 38 S = []) (hN : popN S = S ∧ nots S = []) (p : Nat) (o : List Tok) :
    ((pboth nx f p).1 = true → p + 1 ≤ (pboth nx f p).2.1 ∧ (pboth nx f p).2.1 ≤ e ∧ nx (pboth nx f p).2.1 ≠ 38 ∧ ∃ T' o', (T' = [] ∨ T' = [38]) ∧ o' ++ setO 38 T' = o ++ (pboth nx f p).2.2 ∧ Rch nx test true S p o false (T' ++ S) (pboth nx f p).2.1 o')
      ∧ ((pboth nx f p).1 = false → p ≤ (pboth nx f p).2.1 ∧ Fls nx test true S p o (pboth nx f p).2.1) := by
  have q := hf p o
  by_cases hr : (f p).1 = true
  · obtain ⟨a, b, c⟩ := q.1 hr
    rw [hN.1, hN.2, List.append_nil] at c
    have e1 : pboth nx f p = ((pch nx 38 .A f 101 (f p).2.1).1, (pch nx 38 .A f 101 (f p).2.1).2.1, (f p).2.2 ++ (pch nx 38 .A f 101 (f p).2.1).2.2) := by
      show (if (f p).1 = true then _ else _) = _
      rw [if_pos hr]
    have r := pch_and H hf2 hS hO 101 (f p).2.1 [] (o ++ (f p).2.2) (by omega) b (Or.inl rfl)
    rw [e1]
    refine ⟨fun h => ?_, fun h => ?_⟩
    · obtain ⟨r1, r2, r3, T', o', r4, r5, r6⟩ := r.1 h
      refine ⟨by show p + 1 ≤ (pch nx 38 .A f 101 (f p).2.1).2.1; omega, r2, r3, T', o', r4, ?_, Rch_tr c r6⟩
      rw [r5]
      show _ ++ [] ++ _ = _
      simp only [List.append_assoc, List.nil_append]
    · obtain ⟨r1, r2⟩ := r.2 h
      exact ⟨by show p ≤ (pch nx 38 .A f 101 (f p).2.1).2.1; omega, Rch_fl c r2⟩
  · have hr' : (f p).1 = false := Bool.eq_false_iff.mpr hr
    have e1 : pboth nx f p = (false, (f p).2.1, []) := by
      show (if (f p).1 = true then _ else _) = _
      rw [if_neg hr]
    rw [e1]
    exact ⟨fun h => (by cases h), fun _ => q.2 hr'⟩
/-- b1 ( | b )*: with T on the pile above S -/
theorem pch_or {nx test e S} (H : PSt nx test e) {g : Nat → PRd}
    (hg : ∀ p o, ((g p).1 = true → p + 1 ≤ (g p).2.1 ∧ (g p).2.1 ≤ e ∧ nx (g p).2.1 ≠ 38 ∧ ∃ T' o', (T' = [] ∨ T' = [38]) ∧ o' ++ setO 38 T' = o ++ (g p).2.2 ∧ Rch nx test true (124 :: S) p o false (T' ++ 124 :: S) (g p).2.1 o') ∧ ((g p).1 = false → p ≤ (g p).2.1 ∧ Fls nx test true (124 :: S) p o (g p).2.1))
    (hS : setS 124 S = S) (hO : setO 124 S = []) :
    ∀ n p T o, e < n + p → p ≤ e → nx p ≠ 38 → (T = [] ∨ T = [38] ∨ T = [124] ∨ T = [38, 124]) →
      ((pch nx 124 .O g n p).1 = true → p ≤ (pch nx 124 .O g n p).2.1 ∧ (pch nx 124 .O g n p).2.1 ≤ e ∧ nx (pch nx 124 .O g n p).2.1 ≠ 38 ∧ nx (pch nx 124 .O g n p).2.1 ≠ 124 ∧ ∃ T' o', setS 124 (T' ++ S) = S ∧ setO 124 (T' ++ S) = setO 124 T' ∧ o' ++ setO 124 T' = o ++ setO 124 T ++ (pch nx 124 .O g n p).2.2 ∧ Rch nx test false (T ++ S) p o false (T' ++ S) (pch nx 124 .O g n p).2.1 o')
      ∧ ((pch nx 124 .O g n p).1 = false → p ≤ (pch nx 124 .O g n p).2.1 ∧ Fls nx test false (T ++ S) p o (pch nx 124 .O g n p).2.1) := by
  intro n
  induction n with
  | zero => intro p T o h1 h2 _; omega
  | succ n ih =>
    intro p T o h1 h2 h3 hT
    have hset : setS 124 (T ++ S) = S ∧ setO 124 (T ++ S) = setO 124 T := by
      rcases hT with rfl | rfl | rfl | rfl
      · exact ⟨hS, hO⟩
      · refine ⟨?_, ?_⟩
        · show setS 124 (38 :: S) = S
          unfold setS; rw [if_pos (Or.inl rfl)]; exact hS
        · show setO 124 (38 :: S) = setO 124 [38]
          unfold setO; rw [if_pos (Or.inl rfl), if_pos (Or.inl rfl), hO]; rfl
      · refine ⟨?_, ?_⟩
        · show setS 124 (124 :: S) = S
          unfold setS; rw [if_pos (Or.inr ⟨rfl, by decide +kernel⟩)]; exact hS
        · show setO 124 (124 :: S) = setO 124 [124]
          unfold setO; rw [if_pos (Or.inr ⟨rfl, by decide +kernel⟩), if_pos (Or.inr ⟨rfl, by decide +kernel⟩), hO]; rfl
      · refine ⟨?_, ?_⟩
        · show setS 124 (38 :: 124 :: S) = S
          unfold setS; rw [if_pos (Or.inl rfl)]; unfold setS; rw [if_pos (Or.inr ⟨rfl, by decide +kernel⟩)]; exact hS
        · show setO 124 (38 :: 124 :: S) = setO 124 [38, 124]
          unfold setO; rw [if_pos (Or.inl rfl), if_pos (Or.inl rfl)]; unfold setO; rw [if_pos (Or.inr ⟨rfl, by decide +kernel⟩), if_pos (Or.inr ⟨rfl, by decide +kernel⟩), hO]; rfl
    by_cases hx : nx p = 124
    · have st : Rch nx test false (T ++ S) p o true (124 :: S) (p + 1) (o ++ setO 124 T) := Rch_s (Nat.le_refl _) (fun k => by rw [prun_f, if_pos (Or.inr hx), hx, hset.1, hset.2])
      have q := hg (p + 1) (o ++ setO 124 T)
      by_cases hr : (g (p + 1)).1 = true
      · obtain ⟨a, b, b2, T1, o1, t1, t2, c⟩ := q.1 hr
        have e1 : pch nx 124 .O g (n + 1) p = ((pch nx 124 .O g n (g (p + 1)).2.1).1, (pch nx 124 .O g n (g (p + 1)).2.1).2.1, (g (p + 1)).2.2 ++ .O :: (pch nx 124 .O g n (g (p + 1)).2.1).2.2) := by
          show (if nx p = 124 then _ else _) = _
          rw [if_pos hx, if_pos hr]
        have t3 : setO 124 (T1 ++ [124]) = setO 38 T1 ++ [.O] := by rcases t1 with rfl | rfl <;> rfl
        have r := ih (g (p + 1)).2.1 (T1 ++ [124]) o1 (by omega) b b2 (by rcases t1 with rfl | rfl; exact Or.inr (Or.inr (Or.inl rfl)); exact Or.inr (Or.inr (Or.inr rfl)))
        rw [List.append_assoc T1 [124] S, t3] at r
        rw [e1]
        refine ⟨fun h => ?_, fun h => ?_⟩
        · obtain ⟨r1, r2, r3, r3', T', o', r4, r4', r5, r6⟩ := r.1 h
          refine ⟨by show p ≤ (pch nx 124 .O g n (g (p + 1)).2.1).2.1; omega, r2, r3, r3', T', o', r4, r4', ?_, Rch_tr st (Rch_tr c r6)⟩
          rw [r5, ← List.append_assoc o1, t2]
          simp only [List.append_assoc, List.cons_append, List.nil_append]
        · obtain ⟨r1, r2⟩ := r.2 h
          exact ⟨by show p ≤ (pch nx 124 .O g n (g (p + 1)).2.1).2.1; omega, Rch_fl st (Rch_fl c r2)⟩
      · have hr' : (g (p + 1)).1 = false := Bool.eq_false_iff.mpr hr
        have e1 : pch nx 124 .O g (n + 1) p = (false, (g (p + 1)).2.1, []) := by
          show (if nx p = 124 then _ else _) = _
          rw [if_pos hx, if_neg hr]
        rw [e1]
        obtain ⟨a, b⟩ := q.2 hr'
        exact ⟨fun h => (by cases h), fun _ => ⟨by show p ≤ (g (p + 1)).2.1; omega, Rch_fl st b⟩⟩
    · have e1 : pch nx 124 .O g (n + 1) p = (true, p, []) := by
        show (if nx p = 124 then _ else _) = _
        rw [if_neg hx]
      rw [e1]
      exact ⟨fun _ => ⟨Nat.le_refl _, h2, h3, hx, T, o, hset.1, hset.2, by simp only [List.append_nil], Rch_rf⟩, fun h => by cases h⟩
theorem SimE {nx test e S} (H : PSt nx test e) (he : e ≤ 100) {f : Nat → PRd} (hf : ∀ T, opn T = opn S → SimP nx test e f T) (hS : setS 124 S = S ∧ setS 38 S = S) (hO : setO 124 S = [] ∧ setO 38 S = []) (hN : popN S = S ∧ nots S = []) (p : Nat) (o : List Tok) :
    ((peither nx f p).1 = true → p + 1 ≤ (peither nx f p).2.1 ∧ (peither nx f p).2.1 ≤ e ∧ nx (peither nx f p).2.1 ≠ 38 ∧ nx (peither nx f p).2.1 ≠ 124 ∧ ∃ T' o', setS 124 (T' ++ S) = S ∧ o' ++ setO 124 (T' ++ S) = o ++ (peither nx f p).2.2 ∧ Rch nx test true S p o false (T' ++ S) (peither nx f p).2.1 o')
      ∧ ((peither nx f p).1 = false → p ≤ (peither nx f p).2.1 ∧ Fls nx test true S p o (peither nx f p).2.1) := by
  have o38 : ∀ T, opn (38 :: T) = opn T := fun T => by rw [opn_c, if_neg (by decide +kernel)]
  have o124 : ∀ T, opn (124 :: T) = opn T := fun T => by rw [opn_c, if_neg (by decide +kernel)]
  have q := SimP_both H he (hf S rfl) (hf (38 :: S) (o38 S)) hS.2 hO.2 hN p o
  have g := SimP_both H he (hf (124 :: S) (o124 S)) (hf (38 :: 124 :: S) ((o38 _).trans (o124 S))) (by unfold setS; rw [if_neg (by decide +kernel)]) (by unfold setO; rw [if_neg (by decide +kernel)]) ⟨by unfold popN; rw [if_neg (by decide +kernel)], by unfold nots; rw [if_neg (by decide +kernel)]⟩
  by_cases hr : (pboth nx f p).1 = true
  · obtain ⟨a, b, b2, T1, o1, t1, t2, c⟩ := q.1 hr
    have e1 : peither nx f p = ((pch nx 124 .O (pboth nx f) 101 (pboth nx f p).2.1).1, (pch nx 124 .O (pboth nx f) 101 (pboth nx f p).2.1).2.1, (pboth nx f p).2.2 ++ (pch nx 124 .O (pboth nx f) 101 (pboth nx f p).2.1).2.2) := by
      show (if (pboth nx f p).1 = true then _ else _) = _
      rw [if_pos hr]
    have t3 : setO 124 T1 = setO 38 T1 := by rcases t1 with rfl | rfl <;> rfl
    have r := pch_or H g hS.1 hO.1 101 (pboth nx f p).2.1 T1 o1 (by omega) b b2 (by rcases t1 with rfl | rfl; exact Or.inl rfl; exact Or.inr (Or.inl rfl))
    rw [t3, t2] at r
    rw [e1]
    refine ⟨fun h => ?_, fun h => ?_⟩
    · obtain ⟨r1, r2, r3, r3', T', o', r4, r4', r5, r6⟩ := r.1 h
      refine ⟨by show p + 1 ≤ (pch nx 124 .O (pboth nx f) 101 (pboth nx f p).2.1).2.1; omega, r2, r3, r3', T', o', r4, ?_, Rch_tr c r6⟩
      rw [r4', r5]
      simp only [List.append_assoc]
    · obtain ⟨r1, r2⟩ := r.2 h
      exact ⟨by show p ≤ (pch nx 124 .O (pboth nx f) 101 (pboth nx f p).2.1).2.1; omega, Rch_fl c r2⟩
  · have hr' : (pboth nx f p).1 = false := Bool.eq_false_iff.mpr hr
    have e1 : peither nx f p = (false, (pboth nx f p).2.1, []) := by
      show (if (pboth nx f p).1 = true then _ else _) = _
      rw [if_neg hr]
    rw [e1]
    exact ⟨fun h => (by cases h), fun _ => q.2 hr'⟩
theorem SimP_part {nx test e} (H : PSt nx test e) (he : e ≤ 100) : ∀ k S, opn S + k = 4 → SimP nx test e (ppart nx test k) S := by
  intro k
  induction k with
  | zero => exact fun S h => SimP_0 H h
  | succ k ih =>
    intro S h p o
    have h4 : ¬ opn S = 4 := by omega
    by_cases h33 : nx p = 33
    · have st : Rch nx test true S p o true (33 :: S) (p + 1) o := Rch_s (Nat.le_refl _) (fun k => by rw [prun_t, if_pos (Or.inl h33), if_neg h4, h33])
      have q := ih (33 :: S) (by have : opn (33 :: S) = opn S + 1 := by rw [opn_c, if_pos (Or.inl rfl)]
                                 omega) (p + 1) o
      have n33 : popN (33 :: S) = popN S ∧ nots (33 :: S) = .N :: nots S := ⟨by rw [popN_c, if_pos rfl], by rw [nots_c, if_pos rfl]⟩
      rw [n33.1, n33.2] at q
      by_cases hr : (ppart nx test k (p + 1)).1 = true
      · obtain ⟨a, b, c⟩ := q.1 hr
        have e1 : ppart nx test (k + 1) p = (true, (ppart nx test k (p + 1)).2.1, (ppart nx test k (p + 1)).2.2 ++ [.N]) := by
          show (if nx p = 33 then _ else _) = _
          rw [if_pos h33, if_pos hr]
        rw [e1]
        refine ⟨fun _ => ⟨by show p + 1 ≤ (ppart nx test k (p + 1)).2.1; omega, b, ?_⟩, fun h => by cases h⟩
        have := Rch_tr st c
        simp only [List.append_assoc, List.cons_append, List.nil_append] at this ⊢
        exact this
      · have hr' : (ppart nx test k (p + 1)).1 = false := Bool.eq_false_iff.mpr hr
        have e1 : ppart nx test (k + 1) p = (false, (ppart nx test k (p + 1)).2.1, []) := by
          show (if nx p = 33 then _ else _) = _
          rw [if_pos h33, if_neg hr]
        rw [e1]
        obtain ⟨a, b⟩ := q.2 hr'
        exact ⟨fun h => (by cases h), fun _ => ⟨by show p ≤ (ppart nx test k (p + 1)).2.1; omega, Rch_fl st b⟩⟩
    · by_cases h40 : nx p = 40
      · have st : Rch nx test true S p o true (40 :: S) (p + 1) o := Rch_s (Nat.le_refl _) (fun k => by rw [prun_t, if_pos (Or.inr h40), if_neg h4, h40])
        have o40 : opn (40 :: S) = opn S + 1 := by rw [opn_c, if_pos (Or.inr rfl)]
        have q := SimE H he (S := 40 :: S) (fun T hT => ih T (by omega)) ⟨by unfold setS; rw [if_neg (by decide +kernel)], by unfold setS; rw [if_neg (by decide +kernel)]⟩ ⟨by unfold setO; rw [if_neg (by decide +kernel)], by unfold setO; rw [if_neg (by decide +kernel)]⟩ ⟨by unfold popN; rw [if_neg (by decide +kernel)], by unfold nots; rw [if_neg (by decide +kernel)]⟩ (p + 1) o
        by_cases hr : (peither nx (ppart nx test k) (p + 1)).1 = true
        · obtain ⟨a, b, b1, b2, T', o', t1, t2, c⟩ := q.1 hr
          by_cases h41 : nx (peither nx (ppart nx test k) (p + 1)).2.1 = 41
          · have e1 : ppart nx test (k + 1) p = (true, (peither nx (ppart nx test k) (p + 1)).2.1 + 1, (peither nx (ppart nx test k) (p + 1)).2.2) := by
              show (if nx p = 33 then _ else _) = _
              rw [if_neg h33, if_pos h40, if_pos hr, if_pos h41]
            rw [e1]
            have he2 : (peither nx (ppart nx test k) (p + 1)).2.1 < e := Nat.lt_of_not_le (fun h9 => by rw [H.hn _ h9] at h41; exact absurd h41 (by decide +kernel))
            refine ⟨fun _ => ⟨by show p + 1 ≤ (peither nx (ppart nx test k) (p + 1)).2.1 + 1; omega, he2, ?_⟩, fun h => by cases h⟩
            refine Rch_tr st (Rch_tr c (Rch_s (Nat.le_refl _) (fun k9 => ?_)))
            rw [prun_f, if_neg (fun h9 => h9.elim b1 b2), t1, t2]
            show (if nx _ = 41 then _ else _) = _
            rw [if_pos h41]
          · have e1 : ppart nx test (k + 1) p = (false, (peither nx (ppart nx test k) (p + 1)).2.1, []) := by
              show (if nx p = 33 then _ else _) = _
              rw [if_neg h33, if_pos h40, if_pos hr, if_neg h41]
            rw [e1]
            refine ⟨fun h => (by cases h), fun _ => ⟨by show p ≤ (peither nx (ppart nx test k) (p + 1)).2.1; omega, Rch_fl st (Rch_fl c (Fls_s (Nat.le_refl _) (fun k9 => ?_)))⟩⟩
            rw [prun_f, if_neg (fun h9 => h9.elim b1 b2), t1, t2]
            show (if nx _ = 41 then _ else _) = _
            rw [if_neg h41]
        · have hr' : (peither nx (ppart nx test k) (p + 1)).1 = false := Bool.eq_false_iff.mpr hr
          have e1 : ppart nx test (k + 1) p = (false, (peither nx (ppart nx test k) (p + 1)).2.1, []) := by
            show (if nx p = 33 then _ else _) = _
            rw [if_neg h33, if_pos h40, if_neg hr]
          rw [e1]
          obtain ⟨a, b⟩ := q.2 hr'
          exact ⟨fun h => (by cases h), fun _ => ⟨by show p ≤ (peither nx (ppart nx test k) (p + 1)).2.1; omega, Rch_fl st b⟩⟩
      · have e1 : ppart nx test (k + 1) p = test p := by
          show (if nx p = 33 then _ else _) = _
          rw [if_neg h33, if_neg h40]
        rw [e1]
        exact Sim_test H (fun h => h.elim h33 h40)
theorem prun_le {nx test e} (H : PSt nx test e) (h2 : ∀ p, p ≤ e → (test p).2.1 ≤ e) : ∀ n w S p o, p ≤ e → (prun nx test n w S p o).2.1 ≤ e := by
  have lt : ∀ {p c}, nx p = c → c ≠ -1 → p < e := fun {p c} h g => Nat.lt_of_not_le (fun h9 => g (by rw [← h, H.hn _ h9]))
  intro n
  induction n with
  | zero => intro w S p o h; exact h
  | succ n ih =>
    intro w S p o h
    cases w
    · rw [prun_f]
      by_cases hx : nx p = 38 ∨ nx p = 124
      · rw [if_pos hx]
        exact ih _ _ _ _ (hx.elim (fun h => lt h (by decide +kernel)) (fun h => lt h (by decide +kernel)))
      · rw [if_neg hx]
        cases hs : setS 124 S with
        | nil => exact h
        | cons b S' =>
          show (if nx p = 41 then _ else _ : PRd).2.1 ≤ e
          by_cases h41 : nx p = 41
          · rw [if_pos h41]; exact ih _ _ _ _ (lt h41 (by decide +kernel))
          · rw [if_neg h41]; exact h
    · rw [prun_t]
      by_cases hx : nx p = 33 ∨ nx p = 40
      · rw [if_pos hx]
        by_cases h4 : opn S = 4
        · rw [if_pos h4]; exact h
        · rw [if_neg h4]; exact ih _ _ _ _ (hx.elim (fun h => lt h (by decide +kernel)) (fun h => lt h (by decide +kernel)))
      · rw [if_neg hx]
        by_cases ht : (test p).1 = true
        · rw [if_pos ht]; exact ih _ _ _ _ (h2 p h)
        · rw [if_neg ht]; exact h2 p h
/-- both ways of reading E, alike -/
theorem prun_E {nx test e} (H : PSt nx test e) (h2 : ∀ p, p ≤ e → (test p).2.1 ≤ e) (he : e ≤ 100) (p k : Nat) (hp : p ≤ e) (hk : 102 ≤ k) :
    prun nx test k true [] p [] = (if (peither nx (ppart nx test 4) p).1 = true then peither nx (ppart nx test 4) p else (false, (peither nx (ppart nx test 4) p).2.1, [])) := by
  have q := SimE H he (S := []) (fun T hT => SimP_part H he 4 T (by rw [hT]; rfl)) ⟨rfl, rfl⟩ ⟨rfl, rfl⟩ ⟨rfl, rfl⟩ p []
  by_cases hr : (peither nx (ppart nx test 4) p).1 = true
  · obtain ⟨a, b, b1, b2, T', o', t1, t2, j, hj, c⟩ := q.1 hr
    rw [if_pos hr, show k = j + ((k - j - 1) + 1) from by omega, c, prun_f, if_neg (fun h9 => h9.elim b1 b2), t1, t2]
    show (true, _, _) = _
    rw [← hr]
    rfl
  · have hr' : (peither nx (ppart nx test 4) p).1 = false := Bool.eq_false_iff.mpr hr
    obtain ⟨a, j, hj, c⟩ := q.2 hr'
    have l := prun_le H h2 (j + 1 + 0) true [] p [] hp
    rw [c 0] at l
    have l : (peither nx (ppart nx test 4) p).2.1 ≤ e := l
    rw [if_neg hr, show k = j + 1 + (k - j - 1) from by omega, c]
noncomputable def F_J0_isLatin1_aae02 (c0 : Nat) (σ : Sg) : Int32 × Sg := (if (1 : Int32) = 0 then ((0 : Int32), σ) else (if (0 : Int32) = 0 then ((1 : Int32), σ) else ((0 : Int32), σ)))
noncomputable def F_J0_length_8abf5 (c0 : Nat) (σ : Sg) : Int32 × Sg := (nI (slen c0), σ)
noncomputable def F_J0_charAt_5068e (c0 : Nat) (a1 : Int32) (σ : Sg) : Int32 × Sg := (sby c0 a1.toNatClampNeg, σ)
noncomputable def F_J1_canEncode_9a6ad (a1 : Int32) (σ : Sg) : Int32 × Sg := (if a1 < 0 then ((0 : Int32), σ) else (if (255 : Int32) < a1 then ((0 : Int32), σ) else ((1 : Int32), σ)))
noncomputable def LB_J1_indexOfChar_4cfef_7 (a1 : Nat) (rec : Int32 → Int32 → Int32 → Sg → Int32 × Sg) (x3 : Int32) (x4 : Int32) (x5 : Int32) (σ : Sg) : Int32 × Sg := (if x3 ≤ x5 then ((-1 : Int32), σ) else (if (sby a1 x5.toNatClampNeg) = x4 then (x5, σ) else fl (x5 + 1) (fun v4 => rec x3 x4 v4 σ)))
noncomputable def LF_J1_indexOfChar_4cfef (a1 : Nat) : Nat → Int32 → Int32 → Int32 → Sg → Int32 × Sg
  | 0, _, _, _, σ => (0, σ)
  | n + 1, x3, x4, x5, σ => LB_J1_indexOfChar_4cfef_7 a1 (LF_J1_indexOfChar_4cfef a1 n) x3 x4 x5 σ
noncomputable def F_J1_indexOfChar_4cfef (a1 : Nat) (a2 : Int32) (a3 : Int32) (a4 : Int32) (σ : Sg) : Int32 × Sg := LF_J1_indexOfChar_4cfef a1 9 a4 a2.toInt8.toInt32 a3 σ
noncomputable def F_J1_indexOf_4cfef (a1 : Nat) (a2 : Int32) (a3 : Int32) (a4 : Int32) (σ : Sg) : Int32 × Sg := fb (F_J1_canEncode_9a6ad a2 σ) (fun r2 σ1 => (if r2 = 0 then ((-1 : Int32), σ1) else fl (jmax a3 (0 : Int32)) (fun v4 => fl (jmin a4 (nI (slen a1))) (fun v5 => (if v4 < v5 then fb (F_J1_indexOfChar_4cfef a1 a2 v4 v5 σ1) (fun r8 σ7 => (r8, σ7)) else ((-1 : Int32), σ1))))))
noncomputable def F_J0_indexOf_7cf53 (c0 : Nat) (a1 : Int32) (a2 : Int32) (σ : Sg) : Int32 × Sg := fb (F_J0_isLatin1_aae02 c0 σ) (fun r2 σ1 => (if r2 = 0 then fb (F_J0_length_8abf5 c0 σ1) (fun r5 σ4 => (0, σ)) else fb (F_J0_length_8abf5 c0 σ1) (fun r7 σ6 => fb (F_J1_indexOf_4cfef c0 a1 a2 r7 σ6) (fun r9 σ8 => (r9, σ8)))))
noncomputable def F_J0_indexOf_0f7a4 (c0 : Nat) (a1 : Int32) (σ : Sg) : Int32 × Sg := fb (F_J0_indexOf_7cf53 c0 a1 (0 : Int32) σ) (fun r2 σ1 => (r2, σ1))
noncomputable def F_X2_sign (c0 : Nat) (σ : Sg) : Int32 × Sg := fop (gr σ c0 9) (((-1 : Int32), σ)) (fun a4 => (if (gi σ c0 10) ≤ (gi σ c0 11) then ((-1 : Int32), σ) else fop (gr σ c0 9) ((0, σ)) (fun a2 => (gi σ a2 (gi σ c0 11).toNatClampNeg, σ))))
noncomputable def F_X2_isDigit (c0 : Nat) (σ : Sg) : Int32 × Sg := fb (F_X2_sign c0 σ) (fun r2 σ1 => (if r2 < (48 : Int32) then ((0 : Int32), σ1) else fb (F_X2_sign c0 σ1) (fun r5 σ4 => (if (57 : Int32) < r5 then ((0 : Int32), σ4) else ((1 : Int32), σ4)))))
noncomputable def F_X2_takes (c0 : Nat) (a1 : Int32) (σ : Sg) : Int32 × Sg := fb (F_X2_sign c0 σ) (fun r2 σ1 => (if r2 = a1 then fl (si σ1 c0 11 ((gi σ1 c0 11) + (1 : Int32))) (fun σ4 => ((1 : Int32), σ4)) else ((0 : Int32), σ1)))
noncomputable def F_X2_writes (c0 : Nat) (a1 : Int32) (σ : Sg) : Sg := (if (100 : Int32) ≤ (gi σ c0 4) then σ else fl (si σ (c0 + 1) (gi σ c0 4).toNatClampNeg a1) (fun σ3 => fl (si σ3 c0 4 ((gi σ3 c0 4) + (1 : Int32))) (fun σ4 => σ4)))
noncomputable def LB_X2_keeps_40 (c0 : Nat) (rec : Int32 → Int32 → Sg → Sg) (x1 : Int32) (x2 : Int32) (σ : Sg) : Sg := (if (10 : Int32) ≤ (gi σ c0 8) then σ else fl (si σ (c0 + 2) (gi σ c0 8).toNatClampNeg x1) (fun σ3 => fl (si σ3 (c0 + 3) (gi σ3 c0 8).toNatClampNeg x2) (fun σ5 => fl (si σ5 (c0 + 4) (gi σ5 c0 8).toNatClampNeg (gi σ5 c0 4)) (fun σ7 => fl (si σ7 c0 8 ((gi σ7 c0 8) + (1 : Int32))) (fun σ8 => σ8)))))
noncomputable def LF_X2_keeps (c0 : Nat) : Nat → Int32 → Int32 → Sg → Sg
  | 0, _, _, σ => σ
  | n + 1, x1, x2, σ => LB_X2_keeps_40 c0 (LF_X2_keeps c0 n) x1 x2 σ
noncomputable def F_X2_keeps (c0 : Nat) (a1 : Int32) (a2 : Int32) (σ : Sg) : Sg := (if a1 = (2 : Int32) then fl (si σ c0 0 a2) (fun σ7 => LF_X2_keeps c0 9 a1 a2 σ7) else (if a1 = (3 : Int32) then fl (si σ c0 1 a2) (fun σ6 => LF_X2_keeps c0 9 a1 a2 σ6) else (if a1 ≤ (3 : Int32) then LF_X2_keeps c0 9 a1 a2 σ else fl (jmax (1 : Int32) a2) (fun v4 => fl (si σ c0 2 v4) (fun σ5 => LF_X2_keeps c0 9 a1 a2 σ5)))))
noncomputable def F_X2_readsNumber (c0 : Nat) (σ : Sg) : Int32 × Sg := fb (F_X2_isDigit c0 σ) (fun r2 σ1 => (if r2 = 0 then ((-1 : Int32), σ1) else fb (F_X2_sign c0 σ1) (fun r5 σ4 => fl (r5 - (48 : Int32)) (fun v6 => fl (si σ4 c0 11 ((gi σ4 c0 11) + (1 : Int32))) (fun σ7 => fb (F_X2_isDigit c0 σ7) (fun r9 σ8 => (if r9 = 0 then (v6, σ8) else fb (F_X2_sign c0 σ8) (fun r12 σ11 => fl ((((10 : Int32) * v6) + r12) - (48 : Int32)) (fun v13 => fl (si σ11 c0 11 ((gi σ11 c0 11) + (1 : Int32))) (fun σ14 => (v13, σ14)))))))))))
noncomputable def F_X2_signAmong (c0 : Nat) (a1 : Nat) (σ : Sg) : Int32 × Sg := fb (F_X2_sign c0 σ) (fun r2 σ1 => (if 0 ≤ r2 then fb (F_J0_indexOf_0f7a4 a1 ((r2.toUInt32 % 65536).toInt32) σ1) (fun r5 σ4 => (r5, σ4)) else ((-1 : Int32), σ1)))
noncomputable def F_X2_readsTest (c0 : Nat) (σ : Sg) : Int32 × Sg := fb (F_X2_signAmong c0 6 σ) (fun r2 σ1 => (if 0 ≤ r2 then fl (si σ1 c0 11 ((gi σ1 c0 11) + (1 : Int32))) (fun σ4 => fb (F_X2_signAmong c0 7 σ4) (fun r6 σ5 => (if 0 ≤ r6 then fl (si σ5 c0 11 ((gi σ5 c0 11) + (1 : Int32))) (fun σ8 => fb (F_X2_readsNumber c0 σ8) (fun r10 σ9 => (if 0 ≤ r10 then fl (F_X2_writes c0 (((r2 * (300 : Int32)) + (r6 * (100 : Int32))) + r10) σ9) (fun σ12 => ((1 : Int32), σ12)) else ((0 : Int32), σ9)))) else ((0 : Int32), σ5)))) else ((0 : Int32), σ1)))
noncomputable def F_X2_wordOf (a1 : Int32) (σ : Sg) : Nat × Sg := (if a1.toInt = 0 then ((200 + 1), σ) else (if a1.toInt = 1 then ((200 + 2), σ) else (if a1.toInt = 2 then ((200 + 3), σ) else (if a1.toInt = 3 then ((200 + 4), σ) else ((200 + 5), σ)))))
noncomputable def F_X2_fault (c0 : Nat) (σ : Sg) : Int32 × Sg := (gi σ c0 11, σ)
noncomputable def LB_X2_readsWord_7 (c0 : Nat) (rec : Nat → Int32 → Sg → Int32 × Sg) (x2 : Nat) (x3 : Int32) (σ : Sg) : Int32 × Sg := fb (F_J0_length_8abf5 x2 σ) (fun r2 σ1 => (if r2 ≤ x3 then ((1 : Int32), σ1) else fb (F_J0_charAt_5068e x2 x3 σ1) (fun r5 σ4 => fb (F_X2_takes c0 r5 σ4) (fun r7 σ6 => (if r7 = 0 then ((0 : Int32), σ6) else fl (x3 + 1) (fun v9 => rec x2 v9 σ6))))))
noncomputable def LF_X2_readsWord (c0 : Nat) : Nat → Nat → Int32 → Sg → Int32 × Sg
  | 0, _, _, σ => (0, σ)
  | n + 1, x2, x3, σ => LB_X2_readsWord_7 c0 (LF_X2_readsWord c0 n) x2 x3 σ
noncomputable def F_X2_readsWord (c0 : Nat) (a1 : Int32) (σ : Sg) : Int32 × Sg := fb (F_X2_wordOf a1 σ) (fun b9 σ1 => (fun a2 => LF_X2_readsWord c0 9 a2 (0 : Int32) σ1) (b9 - 200))
noncomputable def LB_X2_readsPart_r4_33 (c0 : Nat) (rec : Int32 → Sg → Int32 × Sg) (x1 : Int32) (σ : Sg) : Int32 × Sg := (if (4 : Int32) ≤ x1 then fb (F_X2_readsTest c0 σ) (fun r3 σ2 => (r3, σ2)) else fb (F_X2_takes c0 (40 : Int32) σ) (fun r5 σ4 => (if r5 = 0 then fb (F_X2_readsTest c0 σ4) (fun r8 σ7 => (r8, σ7)) else (0, σ))))
noncomputable def LF_X2_readsPart_r4 (c0 : Nat) : Nat → Int32 → Sg → Int32 × Sg
  | 0, _, σ => (0, σ)
  | n + 1, x1, σ => LB_X2_readsPart_r4_33 c0 (LF_X2_readsPart_r4 c0 n) x1 σ
noncomputable def F_X2_readsPart_r4 (c0 : Nat) (a1 : Int32) (σ : Sg) : Int32 × Sg := (if (4 : Int32) ≤ a1 then LF_X2_readsPart_r4 c0 9 a1 σ else fb (F_X2_takes c0 (33 : Int32) σ) (fun r3 σ2 => (if r3 = 0 then LF_X2_readsPart_r4 c0 9 a1 σ2 else (0, σ))))
noncomputable def LB_X2_readsBoth_r4_12 (c0 : Nat) (rec : Int32 → Int32 → Sg → Int32 × Sg) (x1 : Int32) (x2 : Int32) (σ : Sg) : Int32 × Sg := (if (100 : Int32) ≤ x2 then ((1 : Int32), σ) else fb (F_X2_takes c0 (38 : Int32) σ) (fun r3 σ2 => (if r3 = 0 then ((1 : Int32), σ2) else fb (F_X2_readsPart_r4 c0 x1 σ2) (fun r6 σ5 => (if r6 = 0 then ((0 : Int32), σ5) else fl (F_X2_writes c0 (-2 : Int32) σ5) (fun σ8 => fl (x2 + 1) (fun v9 => rec x1 v9 σ8)))))))
noncomputable def LF_X2_readsBoth_r4 (c0 : Nat) : Nat → Int32 → Int32 → Sg → Int32 × Sg
  | 0, _, _, σ => (0, σ)
  | n + 1, x1, x2, σ => LB_X2_readsBoth_r4_12 c0 (LF_X2_readsBoth_r4 c0 n) x1 x2 σ
noncomputable def F_X2_readsBoth_r4 (c0 : Nat) (a1 : Int32) (σ : Sg) : Int32 × Sg := fb (F_X2_readsPart_r4 c0 a1 σ) (fun r2 σ1 => (if r2 = 0 then ((0 : Int32), σ1) else LF_X2_readsBoth_r4 c0 200 a1 (0 : Int32) σ1))
noncomputable def LB_X2_readsEither_r4_12 (c0 : Nat) (rec : Int32 → Int32 → Sg → Int32 × Sg) (x1 : Int32) (x2 : Int32) (σ : Sg) : Int32 × Sg := (if (100 : Int32) ≤ x2 then ((1 : Int32), σ) else fb (F_X2_takes c0 (124 : Int32) σ) (fun r3 σ2 => (if r3 = 0 then ((1 : Int32), σ2) else fb (F_X2_readsBoth_r4 c0 x1 σ2) (fun r6 σ5 => (if r6 = 0 then ((0 : Int32), σ5) else fl (F_X2_writes c0 (-3 : Int32) σ5) (fun σ8 => fl (x2 + 1) (fun v9 => rec x1 v9 σ8)))))))
noncomputable def LF_X2_readsEither_r4 (c0 : Nat) : Nat → Int32 → Int32 → Sg → Int32 × Sg
  | 0, _, _, σ => (0, σ)
  | n + 1, x1, x2, σ => LB_X2_readsEither_r4_12 c0 (LF_X2_readsEither_r4 c0 n) x1 x2 σ
noncomputable def F_X2_readsEither_r4 (c0 : Nat) (a1 : Int32) (σ : Sg) : Int32 × Sg := fb (F_X2_readsBoth_r4 c0 a1 σ) (fun r2 σ1 => (if r2 = 0 then ((0 : Int32), σ1) else LF_X2_readsEither_r4 c0 200 a1 (0 : Int32) σ1))
noncomputable def LB_X2_readsPart_r3_33 (c0 : Nat) (rec : Int32 → Sg → Int32 × Sg) (x1 : Int32) (σ : Sg) : Int32 × Sg := (if (4 : Int32) ≤ x1 then fb (F_X2_readsTest c0 σ) (fun r3 σ2 => (r3, σ2)) else fb (F_X2_takes c0 (40 : Int32) σ) (fun r5 σ4 => (if r5 = 0 then fb (F_X2_readsTest c0 σ4) (fun r8 σ7 => (r8, σ7)) else fb (F_X2_readsEither_r4 c0 (x1 + (1 : Int32)) σ4) (fun r10 σ9 => (if r10 = 0 then ((0 : Int32), σ9) else fb (F_X2_takes c0 (41 : Int32) σ9) (fun r13 σ12 => (if r13 = 0 then ((0 : Int32), σ12) else ((1 : Int32), σ12))))))))
noncomputable def LF_X2_readsPart_r3 (c0 : Nat) : Nat → Int32 → Sg → Int32 × Sg
  | 0, _, σ => (0, σ)
  | n + 1, x1, σ => LB_X2_readsPart_r3_33 c0 (LF_X2_readsPart_r3 c0 n) x1 σ
noncomputable def F_X2_readsPart_r3 (c0 : Nat) (a1 : Int32) (σ : Sg) : Int32 × Sg := (if (4 : Int32) ≤ a1 then LF_X2_readsPart_r3 c0 9 a1 σ else fb (F_X2_takes c0 (33 : Int32) σ) (fun r3 σ2 => (if r3 = 0 then LF_X2_readsPart_r3 c0 9 a1 σ2 else fb (F_X2_readsPart_r4 c0 (a1 + (1 : Int32)) σ2) (fun r6 σ5 => (if r6 = 0 then ((0 : Int32), σ5) else fl (F_X2_writes c0 (-1 : Int32) σ5) (fun σ8 => ((1 : Int32), σ8)))))))
noncomputable def LB_X2_readsBoth_r3_12 (c0 : Nat) (rec : Int32 → Int32 → Sg → Int32 × Sg) (x1 : Int32) (x2 : Int32) (σ : Sg) : Int32 × Sg := (if (100 : Int32) ≤ x2 then ((1 : Int32), σ) else fb (F_X2_takes c0 (38 : Int32) σ) (fun r3 σ2 => (if r3 = 0 then ((1 : Int32), σ2) else fb (F_X2_readsPart_r3 c0 x1 σ2) (fun r6 σ5 => (if r6 = 0 then ((0 : Int32), σ5) else fl (F_X2_writes c0 (-2 : Int32) σ5) (fun σ8 => fl (x2 + 1) (fun v9 => rec x1 v9 σ8)))))))
noncomputable def LF_X2_readsBoth_r3 (c0 : Nat) : Nat → Int32 → Int32 → Sg → Int32 × Sg
  | 0, _, _, σ => (0, σ)
  | n + 1, x1, x2, σ => LB_X2_readsBoth_r3_12 c0 (LF_X2_readsBoth_r3 c0 n) x1 x2 σ
noncomputable def F_X2_readsBoth_r3 (c0 : Nat) (a1 : Int32) (σ : Sg) : Int32 × Sg := fb (F_X2_readsPart_r3 c0 a1 σ) (fun r2 σ1 => (if r2 = 0 then ((0 : Int32), σ1) else LF_X2_readsBoth_r3 c0 200 a1 (0 : Int32) σ1))
noncomputable def LB_X2_readsEither_r3_12 (c0 : Nat) (rec : Int32 → Int32 → Sg → Int32 × Sg) (x1 : Int32) (x2 : Int32) (σ : Sg) : Int32 × Sg := (if (100 : Int32) ≤ x2 then ((1 : Int32), σ) else fb (F_X2_takes c0 (124 : Int32) σ) (fun r3 σ2 => (if r3 = 0 then ((1 : Int32), σ2) else fb (F_X2_readsBoth_r3 c0 x1 σ2) (fun r6 σ5 => (if r6 = 0 then ((0 : Int32), σ5) else fl (F_X2_writes c0 (-3 : Int32) σ5) (fun σ8 => fl (x2 + 1) (fun v9 => rec x1 v9 σ8)))))))
noncomputable def LF_X2_readsEither_r3 (c0 : Nat) : Nat → Int32 → Int32 → Sg → Int32 × Sg
  | 0, _, _, σ => (0, σ)
  | n + 1, x1, x2, σ => LB_X2_readsEither_r3_12 c0 (LF_X2_readsEither_r3 c0 n) x1 x2 σ
noncomputable def F_X2_readsEither_r3 (c0 : Nat) (a1 : Int32) (σ : Sg) : Int32 × Sg := fb (F_X2_readsBoth_r3 c0 a1 σ) (fun r2 σ1 => (if r2 = 0 then ((0 : Int32), σ1) else LF_X2_readsEither_r3 c0 200 a1 (0 : Int32) σ1))
noncomputable def LB_X2_readsPart_r2_33 (c0 : Nat) (rec : Int32 → Sg → Int32 × Sg) (x1 : Int32) (σ : Sg) : Int32 × Sg := (if (4 : Int32) ≤ x1 then fb (F_X2_readsTest c0 σ) (fun r3 σ2 => (r3, σ2)) else fb (F_X2_takes c0 (40 : Int32) σ) (fun r5 σ4 => (if r5 = 0 then fb (F_X2_readsTest c0 σ4) (fun r8 σ7 => (r8, σ7)) else fb (F_X2_readsEither_r3 c0 (x1 + (1 : Int32)) σ4) (fun r10 σ9 => (if r10 = 0 then ((0 : Int32), σ9) else fb (F_X2_takes c0 (41 : Int32) σ9) (fun r13 σ12 => (if r13 = 0 then ((0 : Int32), σ12) else ((1 : Int32), σ12))))))))
noncomputable def LF_X2_readsPart_r2 (c0 : Nat) : Nat → Int32 → Sg → Int32 × Sg
  | 0, _, σ => (0, σ)
  | n + 1, x1, σ => LB_X2_readsPart_r2_33 c0 (LF_X2_readsPart_r2 c0 n) x1 σ
noncomputable def F_X2_readsPart_r2 (c0 : Nat) (a1 : Int32) (σ : Sg) : Int32 × Sg := (if (4 : Int32) ≤ a1 then LF_X2_readsPart_r2 c0 9 a1 σ else fb (F_X2_takes c0 (33 : Int32) σ) (fun r3 σ2 => (if r3 = 0 then LF_X2_readsPart_r2 c0 9 a1 σ2 else fb (F_X2_readsPart_r3 c0 (a1 + (1 : Int32)) σ2) (fun r6 σ5 => (if r6 = 0 then ((0 : Int32), σ5) else fl (F_X2_writes c0 (-1 : Int32) σ5) (fun σ8 => ((1 : Int32), σ8)))))))
noncomputable def LB_X2_readsBoth_r2_12 (c0 : Nat) (rec : Int32 → Int32 → Sg → Int32 × Sg) (x1 : Int32) (x2 : Int32) (σ : Sg) : Int32 × Sg := (if (100 : Int32) ≤ x2 then ((1 : Int32), σ) else fb (F_X2_takes c0 (38 : Int32) σ) (fun r3 σ2 => (if r3 = 0 then ((1 : Int32), σ2) else fb (F_X2_readsPart_r2 c0 x1 σ2) (fun r6 σ5 => (if r6 = 0 then ((0 : Int32), σ5) else fl (F_X2_writes c0 (-2 : Int32) σ5) (fun σ8 => fl (x2 + 1) (fun v9 => rec x1 v9 σ8)))))))
noncomputable def LF_X2_readsBoth_r2 (c0 : Nat) : Nat → Int32 → Int32 → Sg → Int32 × Sg
  | 0, _, _, σ => (0, σ)
  | n + 1, x1, x2, σ => LB_X2_readsBoth_r2_12 c0 (LF_X2_readsBoth_r2 c0 n) x1 x2 σ
noncomputable def F_X2_readsBoth_r2 (c0 : Nat) (a1 : Int32) (σ : Sg) : Int32 × Sg := fb (F_X2_readsPart_r2 c0 a1 σ) (fun r2 σ1 => (if r2 = 0 then ((0 : Int32), σ1) else LF_X2_readsBoth_r2 c0 200 a1 (0 : Int32) σ1))
noncomputable def LB_X2_readsEither_r2_12 (c0 : Nat) (rec : Int32 → Int32 → Sg → Int32 × Sg) (x1 : Int32) (x2 : Int32) (σ : Sg) : Int32 × Sg := (if (100 : Int32) ≤ x2 then ((1 : Int32), σ) else fb (F_X2_takes c0 (124 : Int32) σ) (fun r3 σ2 => (if r3 = 0 then ((1 : Int32), σ2) else fb (F_X2_readsBoth_r2 c0 x1 σ2) (fun r6 σ5 => (if r6 = 0 then ((0 : Int32), σ5) else fl (F_X2_writes c0 (-3 : Int32) σ5) (fun σ8 => fl (x2 + 1) (fun v9 => rec x1 v9 σ8)))))))
noncomputable def LF_X2_readsEither_r2 (c0 : Nat) : Nat → Int32 → Int32 → Sg → Int32 × Sg
  | 0, _, _, σ => (0, σ)
  | n + 1, x1, x2, σ => LB_X2_readsEither_r2_12 c0 (LF_X2_readsEither_r2 c0 n) x1 x2 σ
noncomputable def F_X2_readsEither_r2 (c0 : Nat) (a1 : Int32) (σ : Sg) : Int32 × Sg := fb (F_X2_readsBoth_r2 c0 a1 σ) (fun r2 σ1 => (if r2 = 0 then ((0 : Int32), σ1) else LF_X2_readsEither_r2 c0 200 a1 (0 : Int32) σ1))
noncomputable def LB_X2_readsPart_r1_33 (c0 : Nat) (rec : Int32 → Sg → Int32 × Sg) (x1 : Int32) (σ : Sg) : Int32 × Sg := (if (4 : Int32) ≤ x1 then fb (F_X2_readsTest c0 σ) (fun r3 σ2 => (r3, σ2)) else fb (F_X2_takes c0 (40 : Int32) σ) (fun r5 σ4 => (if r5 = 0 then fb (F_X2_readsTest c0 σ4) (fun r8 σ7 => (r8, σ7)) else fb (F_X2_readsEither_r2 c0 (x1 + (1 : Int32)) σ4) (fun r10 σ9 => (if r10 = 0 then ((0 : Int32), σ9) else fb (F_X2_takes c0 (41 : Int32) σ9) (fun r13 σ12 => (if r13 = 0 then ((0 : Int32), σ12) else ((1 : Int32), σ12))))))))
noncomputable def LF_X2_readsPart_r1 (c0 : Nat) : Nat → Int32 → Sg → Int32 × Sg
  | 0, _, σ => (0, σ)
  | n + 1, x1, σ => LB_X2_readsPart_r1_33 c0 (LF_X2_readsPart_r1 c0 n) x1 σ
noncomputable def F_X2_readsPart_r1 (c0 : Nat) (a1 : Int32) (σ : Sg) : Int32 × Sg := (if (4 : Int32) ≤ a1 then LF_X2_readsPart_r1 c0 9 a1 σ else fb (F_X2_takes c0 (33 : Int32) σ) (fun r3 σ2 => (if r3 = 0 then LF_X2_readsPart_r1 c0 9 a1 σ2 else fb (F_X2_readsPart_r2 c0 (a1 + (1 : Int32)) σ2) (fun r6 σ5 => (if r6 = 0 then ((0 : Int32), σ5) else fl (F_X2_writes c0 (-1 : Int32) σ5) (fun σ8 => ((1 : Int32), σ8)))))))
noncomputable def LB_X2_readsBoth_r1_12 (c0 : Nat) (rec : Int32 → Int32 → Sg → Int32 × Sg) (x1 : Int32) (x2 : Int32) (σ : Sg) : Int32 × Sg := (if (100 : Int32) ≤ x2 then ((1 : Int32), σ) else fb (F_X2_takes c0 (38 : Int32) σ) (fun r3 σ2 => (if r3 = 0 then ((1 : Int32), σ2) else fb (F_X2_readsPart_r1 c0 x1 σ2) (fun r6 σ5 => (if r6 = 0 then ((0 : Int32), σ5) else fl (F_X2_writes c0 (-2 : Int32) σ5) (fun σ8 => fl (x2 + 1) (fun v9 => rec x1 v9 σ8)))))))
noncomputable def LF_X2_readsBoth_r1 (c0 : Nat) : Nat → Int32 → Int32 → Sg → Int32 × Sg
  | 0, _, _, σ => (0, σ)
  | n + 1, x1, x2, σ => LB_X2_readsBoth_r1_12 c0 (LF_X2_readsBoth_r1 c0 n) x1 x2 σ
noncomputable def F_X2_readsBoth_r1 (c0 : Nat) (a1 : Int32) (σ : Sg) : Int32 × Sg := fb (F_X2_readsPart_r1 c0 a1 σ) (fun r2 σ1 => (if r2 = 0 then ((0 : Int32), σ1) else LF_X2_readsBoth_r1 c0 200 a1 (0 : Int32) σ1))
noncomputable def LB_X2_readsEither_r1_12 (c0 : Nat) (rec : Int32 → Int32 → Sg → Int32 × Sg) (x1 : Int32) (x2 : Int32) (σ : Sg) : Int32 × Sg := (if (100 : Int32) ≤ x2 then ((1 : Int32), σ) else fb (F_X2_takes c0 (124 : Int32) σ) (fun r3 σ2 => (if r3 = 0 then ((1 : Int32), σ2) else fb (F_X2_readsBoth_r1 c0 x1 σ2) (fun r6 σ5 => (if r6 = 0 then ((0 : Int32), σ5) else fl (F_X2_writes c0 (-3 : Int32) σ5) (fun σ8 => fl (x2 + 1) (fun v9 => rec x1 v9 σ8)))))))
noncomputable def LF_X2_readsEither_r1 (c0 : Nat) : Nat → Int32 → Int32 → Sg → Int32 × Sg
  | 0, _, _, σ => (0, σ)
  | n + 1, x1, x2, σ => LB_X2_readsEither_r1_12 c0 (LF_X2_readsEither_r1 c0 n) x1 x2 σ
noncomputable def F_X2_readsEither_r1 (c0 : Nat) (a1 : Int32) (σ : Sg) : Int32 × Sg := fb (F_X2_readsBoth_r1 c0 a1 σ) (fun r2 σ1 => (if r2 = 0 then ((0 : Int32), σ1) else LF_X2_readsEither_r1 c0 200 a1 (0 : Int32) σ1))
noncomputable def LB_X2_readsPart_r0_33 (c0 : Nat) (rec : Int32 → Sg → Int32 × Sg) (x1 : Int32) (σ : Sg) : Int32 × Sg := (if (4 : Int32) ≤ x1 then fb (F_X2_readsTest c0 σ) (fun r3 σ2 => (r3, σ2)) else fb (F_X2_takes c0 (40 : Int32) σ) (fun r5 σ4 => (if r5 = 0 then fb (F_X2_readsTest c0 σ4) (fun r8 σ7 => (r8, σ7)) else fb (F_X2_readsEither_r1 c0 (x1 + (1 : Int32)) σ4) (fun r10 σ9 => (if r10 = 0 then ((0 : Int32), σ9) else fb (F_X2_takes c0 (41 : Int32) σ9) (fun r13 σ12 => (if r13 = 0 then ((0 : Int32), σ12) else ((1 : Int32), σ12))))))))
noncomputable def LF_X2_readsPart_r0 (c0 : Nat) : Nat → Int32 → Sg → Int32 × Sg
  | 0, _, σ => (0, σ)
  | n + 1, x1, σ => LB_X2_readsPart_r0_33 c0 (LF_X2_readsPart_r0 c0 n) x1 σ
noncomputable def F_X2_readsPart_r0 (c0 : Nat) (a1 : Int32) (σ : Sg) : Int32 × Sg := (if (4 : Int32) ≤ a1 then LF_X2_readsPart_r0 c0 9 a1 σ else fb (F_X2_takes c0 (33 : Int32) σ) (fun r3 σ2 => (if r3 = 0 then LF_X2_readsPart_r0 c0 9 a1 σ2 else fb (F_X2_readsPart_r1 c0 (a1 + (1 : Int32)) σ2) (fun r6 σ5 => (if r6 = 0 then ((0 : Int32), σ5) else fl (F_X2_writes c0 (-1 : Int32) σ5) (fun σ8 => ((1 : Int32), σ8)))))))
noncomputable def LB_X2_readsBoth_r0_12 (c0 : Nat) (rec : Int32 → Int32 → Sg → Int32 × Sg) (x1 : Int32) (x2 : Int32) (σ : Sg) : Int32 × Sg := (if (100 : Int32) ≤ x2 then ((1 : Int32), σ) else fb (F_X2_takes c0 (38 : Int32) σ) (fun r3 σ2 => (if r3 = 0 then ((1 : Int32), σ2) else fb (F_X2_readsPart_r0 c0 x1 σ2) (fun r6 σ5 => (if r6 = 0 then ((0 : Int32), σ5) else fl (F_X2_writes c0 (-2 : Int32) σ5) (fun σ8 => fl (x2 + 1) (fun v9 => rec x1 v9 σ8)))))))
noncomputable def LF_X2_readsBoth_r0 (c0 : Nat) : Nat → Int32 → Int32 → Sg → Int32 × Sg
  | 0, _, _, σ => (0, σ)
  | n + 1, x1, x2, σ => LB_X2_readsBoth_r0_12 c0 (LF_X2_readsBoth_r0 c0 n) x1 x2 σ
noncomputable def F_X2_readsBoth_r0 (c0 : Nat) (a1 : Int32) (σ : Sg) : Int32 × Sg := fb (F_X2_readsPart_r0 c0 a1 σ) (fun r2 σ1 => (if r2 = 0 then ((0 : Int32), σ1) else LF_X2_readsBoth_r0 c0 200 a1 (0 : Int32) σ1))
noncomputable def LB_X2_readsEither_r0_12 (c0 : Nat) (rec : Int32 → Int32 → Sg → Int32 × Sg) (x1 : Int32) (x2 : Int32) (σ : Sg) : Int32 × Sg := (if (100 : Int32) ≤ x2 then ((1 : Int32), σ) else fb (F_X2_takes c0 (124 : Int32) σ) (fun r3 σ2 => (if r3 = 0 then ((1 : Int32), σ2) else fb (F_X2_readsBoth_r0 c0 x1 σ2) (fun r6 σ5 => (if r6 = 0 then ((0 : Int32), σ5) else fl (F_X2_writes c0 (-3 : Int32) σ5) (fun σ8 => fl (x2 + 1) (fun v9 => rec x1 v9 σ8)))))))
noncomputable def LF_X2_readsEither_r0 (c0 : Nat) : Nat → Int32 → Int32 → Sg → Int32 × Sg
  | 0, _, _, σ => (0, σ)
  | n + 1, x1, x2, σ => LB_X2_readsEither_r0_12 c0 (LF_X2_readsEither_r0 c0 n) x1 x2 σ
noncomputable def F_X2_readsEither_r0 (c0 : Nat) (a1 : Int32) (σ : Sg) : Int32 × Sg := fb (F_X2_readsBoth_r0 c0 a1 σ) (fun r2 σ1 => (if r2 = 0 then ((0 : Int32), σ1) else LF_X2_readsEither_r0 c0 200 a1 (0 : Int32) σ1))
noncomputable def F_X2_readsClause (c0 : Nat) (σ : Sg) : Int32 × Sg := fb (F_X2_signAmong c0 0 σ) (fun r2 σ1 => (if r2 < 0 then ((0 : Int32), σ1) else fb (F_X2_readsWord c0 r2 σ1) (fun r5 σ4 => (if r5 = 0 then ((0 : Int32), σ4) else fb (F_X2_readsNumber c0 σ4) (fun r8 σ7 => (if 0 ≤ r8 then (if (1 : Int32) < r2 then fl (F_X2_keeps c0 r2 r8 σ7) (fun σ11 => ((1 : Int32), σ11)) else fb (F_X2_takes c0 (32 : Int32) σ7) (fun r13 σ12 => (if r13 = 0 then ((0 : Int32), σ12) else fb (F_X2_readsEither_r0 c0 (0 : Int32) σ12) (fun r16 σ15 => (if r16 = 0 then ((0 : Int32), σ15) else fl (F_X2_keeps c0 r2 r8 σ15) (fun σ18 => ((1 : Int32), σ18))))))) else ((0 : Int32), σ7)))))))
noncomputable def LB_X2_reads_48 (c0 : Nat) (a1 : Nat) (rec : Int32 → Sg → Int32 × Sg) (x3 : Int32) (σ : Sg) : Int32 × Sg := (if (10 : Int32) ≤ x3 then fb (F_X2_readsClause c0 σ) (fun r3 σ2 => (if r3 = 0 then ((0 : Int32), σ2) else (if (gi σ2 c0 11) = (gi σ2 c0 10) then ((1 : Int32), σ2) else ((0 : Int32), σ2)))) else fb (F_X2_readsClause c0 σ) (fun r7 σ6 => (if r7 = 0 then ((0 : Int32), σ6) else fb (F_X2_takes c0 (59 : Int32) σ6) (fun r10 σ9 => (if r10 = 0 then (if (gi σ9 c0 11) = (gi σ9 c0 10) then ((1 : Int32), σ9) else ((0 : Int32), σ9)) else fl (x3 + 1) (fun v12 => rec v12 σ9))))))
noncomputable def LF_X2_reads (c0 : Nat) (a1 : Nat) : Nat → Int32 → Sg → Int32 × Sg
  | 0, _, σ => (0, σ)
  | n + 1, x3, σ => LB_X2_reads_48 c0 a1 (LF_X2_reads c0 a1 n) x3 σ
noncomputable def F_X2_reads (c0 : Nat) (a1 : Nat) (a2 : Int32) (σ : Sg) : Int32 × Sg := fl (si σ c0 0 (2 : Int32)) (fun σ1 => fl (si σ1 c0 1 (1 : Int32)) (fun σ2 => fl (si σ2 c0 2 (60 : Int32)) (fun σ3 => fl (si σ3 c0 4 (0 : Int32)) (fun σ4 => fl (si σ4 c0 8 (0 : Int32)) (fun σ5 => fl (sr σ5 c0 9 (some a1)) (fun σ6 => fl (jmin a2 (Int32.ofNat 100)) (fun v7 => fl (si σ6 c0 10 v7) (fun σ8 => fl (si σ8 c0 11 (0 : Int32)) (fun σ9 => LF_X2_reads c0 a1 90 (1 : Int32) σ9)))))))))
noncomputable def F_X11_feed (a1 : Int32) (σ : Sg) : Int32 × Sg := (if a1 < 0 then ((-2 : Int32), σ) else (if a1 ≤ (127 : Int32) then (if (gi σ 0 7) < (100 : Int32) then fl (si σ 50 (gi σ 0 7).toNatClampNeg (vp_nar .byte a1.toInt8.toInt32)) (fun σ5 => fl (si σ5 0 7 ((gi σ5 0 7) + (1 : Int32))) (fun σ6 => (gi σ6 0 7, σ6))) else ((-4 : Int32), σ)) else ((-2 : Int32), σ)))
noncomputable def F_X11_count (a1 : Int32) (σ : Sg) : Int32 × Sg := (if a1.toInt = 0 then (gi σ 1 1, σ) else (if a1.toInt = 1 then (gi σ 0 5, σ) else (if a1.toInt = 2 then ((gi σ 9 1) / (3 : Int32), σ) else (if a1.toInt = 3 then (gi σ 11 1, σ) else (if a1.toInt = 4 then (gi σ 13 1, σ) else (if a1.toInt = 5 then (gi σ 0 7, σ) else (if a1.toInt = 6 then (gi σ 64 1, σ) else ((-2 : Int32), σ))))))))
noncomputable def F_X12_has (a1 : Int32) (a2 : Int32) (σ : Sg) : Int32 × Sg := (if ((a1 >>> (a2 &&& 31)) &&& (1 : Int32)) = (1 : Int32) then ((1 : Int32), σ) else ((0 : Int32), σ))
noncomputable def F_X12_least (a1 : Int32) (a2 : Int32) (σ : Sg) : Int32 × Sg := (if a2 ≤ a1 then (a2, σ) else (a1, σ))
noncomputable def F_X12_most (a1 : Int32) (a2 : Int32) (σ : Sg) : Int32 × Sg := (if a1 ≤ a2 then (a2, σ) else (a1, σ))
noncomputable def F_X12_feed (a1 : Int32) (σ : Sg) : Int32 × Sg := fb (F_X12_in a1 (0 : Int32) (127 : Int32) σ) (fun r2 σ1 => (if r2 = 0 then ((-2 : Int32), σ1) else (if (gi σ1 74 13) = (100 : Int32) then ((-4 : Int32), σ1) else fl (si σ1 116 (gi σ1 74 13).toNatClampNeg a1) (fun σ6 => fl (si σ6 74 13 ((gi σ6 74 13) + (1 : Int32))) (fun σ7 => (gi σ7 74 13, σ7))))))
noncomputable def F_X12_next (σ : Sg) : Int32 × Sg := (if (gi σ 74 13) ≤ (gi σ 74 14) then ((-1 : Int32), σ) else (gi σ 116 (gi σ 74 14).toNatClampNeg, σ))
noncomputable def F_X12_begin (σ : Sg) : Int32 × Sg := (if 0 ≤ (gi σ 74 12) then ((10 : Int32) * (gi σ 74 12), σ) else ((0 : Int32), σ))
noncomputable def F_X12_behind (σ : Sg) : Int32 × Sg := (if 0 ≤ (gi σ 74 12) then (((10 : Int32) * (gi σ 74 12)) + (gi σ 117 (gi σ 74 12).toNatClampNeg), σ) else ((0 : Int32), σ))
noncomputable def LB_X12_set_45 (rec : Nat → Int32 → Int32 → Int32 → Int32 → Int32 → Int32 → Int32 → Sg → Int32 × Sg) (x1 : Int32) (x2 : Int32) (x3 : Int32) (z0 : Int32) (z1 : Int32) (z2 : Int32) (σ : Sg) : Int32 × Sg := fb (F_X12_in z2 z1 z0 σ) (fun r2 σ1 => (if r2 = 0 then ((-2 : Int32), σ1) else (if x2 = 0 then fl (gi σ1 105 x1.toNatClampNeg) (fun v23 => (if x2 = 0 then fl (si σ1 105 x1.toNatClampNeg x3) (fun σ26 => rec 1 x1 x2 x3 0 0 0 v23 σ26) else rec 1 x1 x2 x3 0 0 0 v23 σ1)) else (if x2 = (1 : Int32) then fl (gi σ1 106 x1.toNatClampNeg) (fun v18 => (if x2 = 0 then fl (si σ1 105 x1.toNatClampNeg x3) (fun σ21 => rec 1 x1 x2 x3 0 0 0 v18 σ21) else rec 1 x1 x2 x3 0 0 0 v18 σ1)) else (if x2 = (2 : Int32) then fl (gi σ1 107 x1.toNatClampNeg) (fun v13 => (if x2 = 0 then fl (si σ1 105 x1.toNatClampNeg x3) (fun σ16 => rec 1 x1 x2 x3 0 0 0 v13 σ16) else rec 1 x1 x2 x3 0 0 0 v13 σ1)) else fl (gi σ1 108 x1.toNatClampNeg) (fun v8 => (if x2 = 0 then fl (si σ1 105 x1.toNatClampNeg x3) (fun σ11 => rec 1 x1 x2 x3 0 0 0 v8 σ11) else rec 1 x1 x2 x3 0 0 0 v8 σ1)))))))
noncomputable def LB_X12_set_114 (rec : Nat → Int32 → Int32 → Int32 → Int32 → Int32 → Int32 → Int32 → Sg → Int32 × Sg) (x1 : Int32) (x2 : Int32) (x3 : Int32) (x4 : Int32) (σ : Sg) : Int32 × Sg := (if x2 = (1 : Int32) then fl (si σ 106 x1.toNatClampNeg x3) (fun σ6 => (if x2 = (2 : Int32) then fl (si σ6 107 x1.toNatClampNeg x3) (fun σ9 => rec 2 x1 x2 x3 0 0 0 x4 σ9) else rec 2 x1 x2 x3 0 0 0 x4 σ6)) else (if x2 = (2 : Int32) then fl (si σ 107 x1.toNatClampNeg x3) (fun σ4 => rec 2 x1 x2 x3 0 0 0 x4 σ4) else rec 2 x1 x2 x3 0 0 0 x4 σ))
noncomputable def LB_X12_set_138 (rec : Nat → Int32 → Int32 → Int32 → Int32 → Int32 → Int32 → Int32 → Sg → Int32 × Sg) (x1 : Int32) (x2 : Int32) (x3 : Int32) (x4 : Int32) (σ : Sg) : Int32 × Sg := (if x2 = (3 : Int32) then fl (si σ 108 x1.toNatClampNeg x3) (fun σ3 => (x4, σ3)) else (x4, σ))
noncomputable def LF_X12_set : Nat → Nat → Int32 → Int32 → Int32 → Int32 → Int32 → Int32 → Int32 → Sg → Int32 × Sg
  | 0, _, _, _, _, _, _, _, _, σ => (0, σ)
  | n + 1, 0, x1, x2, x3, z0, z1, z2, _, σ => LB_X12_set_45 (LF_X12_set n) x1 x2 x3 z0 z1 z2 σ
  | n + 1, 1, x1, x2, x3, _, _, _, x4, σ => LB_X12_set_114 (LF_X12_set n) x1 x2 x3 x4 σ
  | n + 1, 2, x1, x2, x3, _, _, _, x4, σ => LB_X12_set_138 (LF_X12_set n) x1 x2 x3 x4 σ
  | _ + 1, _ + 3, _, _, _, _, _, _, _, σ => (0, σ)
noncomputable def F_X12_set (a1 : Int32) (a2 : Int32) (a3 : Int32) (σ : Sg) : Int32 × Sg := fb (F_X12_isMower a1 σ) (fun r2 σ1 => (if r2 = 0 then ((-1 : Int32), σ1) else fb (F_X12_in a2 (0 : Int32) (3 : Int32) σ1) (fun r5 σ4 => (if r5 = 0 then ((-1 : Int32), σ4) else (if a2 = 0 then LF_X12_set 9 0 a1 a2 a3 (9999 : Int32) (0 : Int32) a3 0 σ4 else (if a2 = (1 : Int32) then LF_X12_set 9 0 a1 a2 a3 (10 : Int32) (0 : Int32) a3 0 σ4 else LF_X12_set 9 0 a1 a2 a3 (99 : Int32) (0 : Int32) a3 0 σ4))))))
noncomputable def LB_X12_lastOf_8 (rec : Int32 → Int32 → Int32 → Sg → Int32 × Sg) (x1 : Int32) (x3 : Int32) (x4 : Int32) (σ : Sg) : Int32 × Sg := fb (F_X12_behind σ) (fun r2 σ1 => (if r2 ≤ x4 then (x3, σ1) else (if (gi σ1 118 x4.toNatClampNeg) = x1 then fl (gi σ1 119 x4.toNatClampNeg) (fun v8 => fl (x4 + 1) (fun v9 => rec x1 v8 v9 σ1)) else fl (x4 + 1) (fun v6 => rec x1 x3 v6 σ1))))
noncomputable def LF_X12_lastOf : Nat → Int32 → Int32 → Int32 → Sg → Int32 × Sg
  | 0, _, _, _, σ => (0, σ)
  | n + 1, x1, x3, x4, σ => LB_X12_lastOf_8 (LF_X12_lastOf n) x1 x3 x4 σ
noncomputable def F_X12_lastOf (a1 : Int32) (a2 : Int32) (σ : Sg) : Int32 × Sg := fb (F_X12_begin σ) (fun r2 σ1 => LF_X12_lastOf 90 a1 a2 r2 σ1)
noncomputable def F_X12_gap (σ : Sg) : Int32 × Sg := (if 0 ≤ (gi σ 74 28) then (gi σ 74 28, σ) else fb (F_X12_lastOf (2 : Int32) (2 : Int32) σ) (fun r3 σ2 => (r3, σ2)))
noncomputable def F_X12_fieldLong (σ : Sg) : Int32 × Sg := fb (F_X12_lastOf (4 : Int32) (60 : Int32) σ) (fun r2 σ1 => fb (F_X12_most (1 : Int32) r2 σ1) (fun r4 σ3 => (r4, σ3)))
noncomputable def F_X12_factOf (a1 : Int32) (a2 : Int32) (σ : Sg) : Int32 × Sg := (if a1.toInt = 0 then (a2, σ) else (if a1.toInt = 1 then (gi σ 103 a2.toNatClampNeg, σ) else (if a1.toInt = 2 then (gi σ 74 30, σ) else (if a1.toInt = 3 then (gi σ 106 a2.toNatClampNeg, σ) else (if a1.toInt = 4 then ((gi σ 107 a2.toNatClampNeg) / (10 : Int32), σ) else ((gi σ 74 1) - (gi σ 74 1) / (10 : Int32) * (10 : Int32), σ))))))
noncomputable def F_X12_emits (a1 : Int32) (σ : Sg) : Sg := fl (si σ 122 (gi σ 74 24).toNatClampNeg a1) (fun σ2 => fl (si σ2 74 24 ((gi σ2 74 24) + (1 : Int32))) (fun σ3 => σ3))
noncomputable def LB_X12_whole_0 (rec : Sg → Sg) (σ : Sg) : Sg := (if (gi σ 74 25) ≤ 0 then σ else (if (gi σ 123 ((gi σ 74 25) - (1 : Int32)).toNatClampNeg) = (33 : Int32) then fl (F_X12_emits (-33 : Int32) σ) (fun σ4 => fl (si σ4 74 25 ((gi σ4 74 25) - (1 : Int32))) (fun σ5 => fl (si σ5 74 26 ((gi σ5 74 26) - (1 : Int32))) (fun σ6 => rec  σ6))) else σ))
noncomputable def LF_X12_whole : Nat → Sg → Sg
  | 0, σ => σ
  | n + 1, σ => LB_X12_whole_0 (LF_X12_whole n) σ
noncomputable def F_X12_whole (σ : Sg) : Sg := LF_X12_whole 200  σ
noncomputable def LB_X12_settle_0 (rec : Nat → Int32 → Sg → Sg) (x1 : Int32) (σ : Sg) : Sg := (if (gi σ 74 25) ≤ 0 then σ else (if (gi σ 123 ((gi σ 74 25) - (1 : Int32)).toNatClampNeg) = (38 : Int32) then rec 1 x1 σ else (if (gi σ 123 ((gi σ 74 25) - (1 : Int32)).toNatClampNeg) = (124 : Int32) then (if x1 = (38 : Int32) then σ else rec 1 x1 σ) else σ)))
noncomputable def LB_X12_settle_45 (rec : Nat → Int32 → Sg → Sg) (x1 : Int32) (σ : Sg) : Sg := fl (si σ 74 25 ((gi σ 74 25) - (1 : Int32))) (fun σ1 => fl (F_X12_emits (-(gi σ1 123 (gi σ1 74 25).toNatClampNeg)) σ1) (fun σ3 => rec 0 x1 σ3))
noncomputable def LF_X12_settle : Nat → Nat → Int32 → Sg → Sg
  | 0, _, _, σ => σ
  | n + 1, 0, x1, σ => LB_X12_settle_0 (LF_X12_settle n) x1 σ
  | n + 1, 1, x1, σ => LB_X12_settle_45 (LF_X12_settle n) x1 σ
  | _ + 1, _ + 2, _, σ => σ
noncomputable def F_X12_settle (a1 : Int32) (σ : Sg) : Sg := LF_X12_settle 400 0 a1 σ
noncomputable def F_X12_isDigit (σ : Sg) : Int32 × Sg := fb (F_X12_next σ) (fun r2 σ1 => fb (F_X12_in r2 (48 : Int32) (57 : Int32) σ1) (fun r4 σ3 => (r4, σ3)))
noncomputable def F_X12_takes (a1 : Int32) (σ : Sg) : Int32 × Sg := fb (F_X12_next σ) (fun r2 σ1 => (if r2 = a1 then fl (si σ1 74 14 ((gi σ1 74 14) + (1 : Int32))) (fun σ4 => ((1 : Int32), σ4)) else ((0 : Int32), σ1)))
noncomputable def LB_X12_takesWord_2 (rec : Int32 → Int32 → Int32 → Sg → Int32 × Sg) (x1 : Int32) (x2 : Int32) (x3 : Int32) (σ : Sg) : Int32 × Sg := (if x2 ≤ x3 then fb (F_X12_takes (32 : Int32) σ) (fun r3 σ2 => (r3, σ2)) else fb (F_X12_takes (gi σ 127 (x1 + x3).toNatClampNeg) σ) (fun r6 σ5 => (if r6 = 0 then ((0 : Int32), σ5) else fl (x3 + 1) (fun v8 => rec x1 x2 v8 σ5))))
noncomputable def LF_X12_takesWord : Nat → Int32 → Int32 → Int32 → Sg → Int32 × Sg
  | 0, _, _, _, σ => (0, σ)
  | n + 1, x1, x2, x3, σ => LB_X12_takesWord_2 (LF_X12_takesWord n) x1 x2 x3 σ
noncomputable def F_X12_takesWord (a1 : Int32) (a2 : Int32) (σ : Sg) : Int32 × Sg := LF_X12_takesWord 9 a1 a2 (0 : Int32) σ
noncomputable def LB_X12_takesNumber_16 (rec : Int32 → Sg → Int32 × Sg) (x1 : Int32) (σ : Sg) : Int32 × Sg := (if (2 : Int32) ≤ x1 then ((1 : Int32), σ) else fb (F_X12_isDigit σ) (fun r3 σ2 => (if r3 = 0 then ((1 : Int32), σ2) else fb (F_X12_next σ2) (fun r6 σ5 => fl (si σ5 74 15 ((((10 : Int32) * (gi σ2 74 15)) + r6) - (48 : Int32))) (fun σ7 => fl (si σ7 74 14 ((gi σ7 74 14) + (1 : Int32))) (fun σ8 => fl (x1 + 1) (fun v9 => rec v9 σ8)))))))
noncomputable def LF_X12_takesNumber : Nat → Int32 → Sg → Int32 × Sg
  | 0, _, σ => (0, σ)
  | n + 1, x1, σ => LB_X12_takesNumber_16 (LF_X12_takesNumber n) x1 σ
noncomputable def F_X12_takesNumber (σ : Sg) : Int32 × Sg := fb (F_X12_isDigit σ) (fun r2 σ1 => (if r2 = 0 then ((0 : Int32), σ1) else fl (si σ1 74 15 (0 : Int32)) (fun σ4 => LF_X12_takesNumber 9 (0 : Int32) σ4)))
noncomputable def F_X12_letterAt (a1 : Int32) (σ : Sg) : Int32 × Sg := (if a1.toInt = 100 then ((5 : Int32), σ) else (if a1.toInt = 101 then ((3 : Int32), σ) else (if a1.toInt = 102 then ((-1 : Int32), σ) else (if a1.toInt = 103 then ((-1 : Int32), σ) else (if a1.toInt = 104 then ((-1 : Int32), σ) else (if a1.toInt = 105 then ((-1 : Int32), σ) else (if a1.toInt = 106 then ((-1 : Int32), σ) else (if a1.toInt = 107 then ((1 : Int32), σ) else (if a1.toInt = 108 then ((-1 : Int32), σ) else (if a1.toInt = 109 then ((0 : Int32), σ) else (if a1.toInt = 110 then ((-1 : Int32), σ) else (if a1.toInt = 111 then ((-1 : Int32), σ) else (if a1.toInt = 112 then ((2 : Int32), σ) else (if a1.toInt = 113 then ((-1 : Int32), σ) else (if a1.toInt = 114 then ((-1 : Int32), σ) else (if a1.toInt = 115 then ((-1 : Int32), σ) else (if a1.toInt = 116 then ((4 : Int32), σ) else ((-1 : Int32), σ))))))))))))))))))
noncomputable def F_X12_takesTest (σ : Sg) : Int32 × Sg := fb (F_X12_next σ) (fun r2 σ1 => fb (F_X12_letterAt r2 σ1) (fun r4 σ3 => (if 0 ≤ r4 then fl (si σ3 74 14 ((gi σ3 74 14) + (1 : Int32))) (fun σ6 => fb (F_X12_next σ6) (fun r8 σ7 => fb (F_X12_in r8 (60 : Int32) (62 : Int32) σ7) (fun r10 σ9 => (if r10 = 0 then ((0 : Int32), σ9) else fl (si σ9 74 14 ((gi σ9 74 14) + (1 : Int32))) (fun σ12 => fb (F_X12_takesNumber σ12) (fun r14 σ13 => (if r14 = 0 then ((0 : Int32), σ13) else fl (F_X12_emits ((((1000 : Int32) * r4) + ((100 : Int32) * (r8 - (60 : Int32)))) + (gi σ13 74 15)) σ13) (fun σ16 => fl (F_X12_whole σ16) (fun σ17 => ((1 : Int32), σ17)))))))))) else ((0 : Int32), σ3))))
noncomputable def F_X12_takesHead (a1 : Int32) (σ : Sg) : Int32 × Sg := fb (F_X12_next σ) (fun r2 σ1 => (if r2.toInt = 102 then fl (si σ1 118 a1.toNatClampNeg (0 : Int32)) (fun σ9 => fb (F_X12_takesWord (0 : Int32) (4 : Int32) σ9) (fun r11 σ10 => (r11, σ10))) else (if r2.toInt = 103 then fl (si σ1 118 a1.toNatClampNeg (2 : Int32)) (fun σ13 => fb (F_X12_takesWord (8 : Int32) (3 : Int32) σ13) (fun r15 σ14 => (r15, σ14))) else (if r2.toInt = 115 then fl (si σ1 118 a1.toNatClampNeg (1 : Int32)) (fun σ17 => fb (F_X12_takesWord (4 : Int32) (4 : Int32) σ17) (fun r19 σ18 => (r19, σ18))) else (if r2.toInt = 116 then fl (si σ1 118 a1.toNatClampNeg (3 : Int32)) (fun σ21 => fb (F_X12_takesWord (11 : Int32) (4 : Int32) σ21) (fun r23 σ22 => (r23, σ22))) else fl (si σ1 118 a1.toNatClampNeg (4 : Int32)) (fun σ5 => fb (F_X12_takesWord (15 : Int32) (4 : Int32) σ5) (fun r7 σ6 => (r7, σ6))))))))
noncomputable def LB_X12_takesE_22 (rec : Nat → Int32 → Int32 → Int32 → Sg → Int32 × Sg) (x1 : Int32) (x2 : Int32) (σ : Sg) : Int32 × Sg := fb (F_X12_next σ) (fun r2 σ1 => (if x2 = 0 then (if r2 = (38 : Int32) then rec 1 x1 0 r2 σ1 else (if r2 = (124 : Int32) then rec 1 x1 0 r2 σ1 else fl (F_X12_settle (124 : Int32) σ1) (fun σ6 => fl (si σ6 121 x1.toNatClampNeg (gi σ6 74 24)) (fun σ8 => (if (gi σ8 74 25) = 0 then ((1 : Int32), σ8) else (if r2 = (41 : Int32) then fl (si σ8 74 25 ((gi σ8 74 25) - (1 : Int32))) (fun σ11 => fl (si σ11 74 26 ((gi σ11 74 26) - (1 : Int32))) (fun σ12 => fl (si σ12 74 14 ((gi σ12 74 14) + (1 : Int32))) (fun σ13 => fl (F_X12_whole σ13) (fun σ14 => rec 0 x1 x2 0 σ14)))) else ((0 : Int32), σ8))))))) else (if r2 = (33 : Int32) then rec 2 x1 x2 r2 σ1 else (if r2 = (40 : Int32) then rec 2 x1 x2 r2 σ1 else fb (F_X12_takesTest σ1) (fun r18 σ17 => (if r18 = 0 then ((0 : Int32), σ17) else rec 0 x1 (0 : Int32) 0 σ17))))))
noncomputable def LB_X12_takesE_122 (rec : Nat → Int32 → Int32 → Int32 → Sg → Int32 × Sg) (x1 : Int32) (x3 : Int32) (σ : Sg) : Int32 × Sg := fl (F_X12_settle x3 σ) (fun σ1 => fl (si σ1 123 (gi σ1 74 25).toNatClampNeg x3) (fun σ3 => fl (si σ3 74 25 ((gi σ3 74 25) + (1 : Int32))) (fun σ4 => fl (si σ4 74 14 ((gi σ4 74 14) + (1 : Int32))) (fun σ5 => rec 0 x1 (1 : Int32) 0 σ5))))
noncomputable def LB_X12_takesE_43 (rec : Nat → Int32 → Int32 → Int32 → Sg → Int32 × Sg) (x1 : Int32) (x2 : Int32) (x3 : Int32) (σ : Sg) : Int32 × Sg := (if (gi σ 74 26) = (4 : Int32) then ((0 : Int32), σ) else fl (si σ 74 26 ((gi σ 74 26) + (1 : Int32))) (fun σ2 => fl (si σ2 123 (gi σ2 74 25).toNatClampNeg x3) (fun σ4 => fl (si σ4 74 25 ((gi σ4 74 25) + (1 : Int32))) (fun σ5 => fl (si σ5 74 14 ((gi σ5 74 14) + (1 : Int32))) (fun σ6 => rec 0 x1 x2 0 σ6)))))
noncomputable def LF_X12_takesE : Nat → Nat → Int32 → Int32 → Int32 → Sg → Int32 × Sg
  | 0, _, _, _, _, σ => (0, σ)
  | n + 1, 0, x1, x2, _, σ => LB_X12_takesE_22 (LF_X12_takesE n) x1 x2 σ
  | n + 1, 1, x1, _, x3, σ => LB_X12_takesE_122 (LF_X12_takesE n) x1 x3 σ
  | n + 1, 2, x1, x2, x3, σ => LB_X12_takesE_43 (LF_X12_takesE n) x1 x2 x3 σ
  | _ + 1, _ + 3, _, _, _, σ => (0, σ)
noncomputable def F_X12_takesE (a1 : Int32) (σ : Sg) : Int32 × Sg := fl (si σ 74 25 (0 : Int32)) (fun σ1 => fl (si σ1 74 26 (0 : Int32)) (fun σ2 => fl (si σ2 120 a1.toNatClampNeg (gi σ2 74 24)) (fun σ4 => LF_X12_takesE 300 0 a1 (1 : Int32) 0 σ4)))
noncomputable def F_X12_takesClause (a1 : Int32) (σ : Sg) : Int32 × Sg := fb (F_X12_takesHead a1 σ) (fun r2 σ1 => (if r2 = 0 then ((0 : Int32), σ1) else fb (F_X12_takesNumber σ1) (fun r5 σ4 => (if r5 = 0 then ((0 : Int32), σ4) else fl (si σ4 119 a1.toNatClampNeg (gi σ4 74 15)) (fun σ8 => (if (2 : Int32) ≤ (gi σ8 118 a1.toNatClampNeg) then ((1 : Int32), σ8) else fb (F_X12_takes (32 : Int32) σ8) (fun r12 σ11 => (if r12 = 0 then ((0 : Int32), σ11) else fb (F_X12_takesE a1 σ11) (fun r15 σ14 => (if r15 = 0 then ((0 : Int32), σ14) else ((1 : Int32), σ14)))))))))))
noncomputable def LB_X12_goesText_15 (rec : Int32 → Int32 → Sg → Int32 × Sg) (x1 : Int32) (x2 : Int32) (σ : Sg) : Int32 × Sg := fb (F_X12_takesClause (((10 : Int32) * x1) + x2) σ) (fun r2 σ1 => (if r2 = 0 then ((0 : Int32), σ1) else fl (x2 + 1) (fun v4 => fl (si σ1 117 x1.toNatClampNeg v4) (fun σ6 => (if (gi σ6 74 14) = (gi σ6 74 13) then ((1 : Int32), σ6) else (if v4 = (10 : Int32) then ((0 : Int32), σ6) else fb (F_X12_takes (59 : Int32) σ6) (fun r10 σ9 => (if r10 = 0 then ((0 : Int32), σ9) else rec x1 v4 σ9))))))))
noncomputable def LF_X12_goesText : Nat → Int32 → Int32 → Sg → Int32 × Sg
  | 0, _, _, σ => (0, σ)
  | n + 1, x1, x2, σ => LB_X12_goesText_15 (LF_X12_goesText n) x1 x2 σ
noncomputable def F_X12_goesText (a1 : Int32) (σ : Sg) : Int32 × Sg := fl (si σ 74 14 (0 : Int32)) (fun σ1 => fl (si σ1 74 24 ((100 : Int32) * a1)) (fun σ2 => LF_X12_goesText 20 a1 (0 : Int32) σ2))
noncomputable def F_X12_field (σ : Sg) : Int32 × Sg := (if (gi σ 74 11) = (6 : Int32) then ((-4 : Int32), σ) else fb (F_X12_goesText (gi σ 74 11) σ) (fun r3 σ2 => fl (si σ2 74 13 (0 : Int32)) (fun σ4 => (if r3 = 0 then ((-10 : Int32) - (gi σ4 74 14), σ4) else fl (si σ4 74 12 (gi σ4 74 11)) (fun σ6 => fl (si σ6 74 11 ((gi σ6 74 11) + (1 : Int32))) (fun σ7 => (gi σ7 74 12, σ7)))))))
noncomputable def F_X12_count (a1 : Int32) (σ : Sg) : Int32 × Sg := (if a1.toInt = 0 then (gi σ 74 0, σ) else (if a1.toInt = 1 then (gi σ 74 11, σ) else (if a1.toInt = 2 then (gi σ 74 41, σ) else (if a1.toInt = 3 then (gi σ 74 45, σ) else (if a1.toInt = 4 then (gi σ 74 46, σ) else (if a1.toInt = 5 then (gi σ 74 13, σ) else (if a1.toInt = 6 then (gi σ 74 69, σ) else ((-2 : Int32), σ))))))))
/-! the class's reading of E is the reading by parts -/
noncomputable def encC : Tok → Int32
  | Sum.inl (f, s, n) => Int32.ofNat (f * 300 + s * 100 + n)
  | Sum.inr 0 => -1
  | Sum.inr 1 => -2
  | Sum.inr _ => -3
noncomputable abbrev NXo (nx : Nat → Int) (e : Nat) : Prop :=
  (e ≤ 100) ∧ (∀ p, e ≤ p → nx p = -1) ∧ (∀ p, p < e → 0 ≤ nx p ∧ nx p ≤ 127)
theorem NXo.le {nx : Nat → Int} {e : Nat} (h : NXo nx e) : e ≤ 100 := h.1
theorem NXo.hn {nx : Nat → Int} {e : Nat} (h : NXo nx e) : ∀ p, e ≤ p → nx p = -1 := h.2.1
theorem NXo.hb {nx : Nat → Int} {e : Nat} (h : NXo nx e) : ∀ p, p < e → 0 ≤ nx p ∧ nx p ≤ 127 := h.2.2
noncomputable def CDc (σ : Sg) (c0 : Nat) (L : List Tok) : Prop := (gi σ c0 4).toInt = (L.length : Int) ∧ ∀ j t, L[j]? = some t → gi σ (c0 + 1) j = encC t
/-- the field c0 reads the text nx of e signs, stands before sign p, and has written L -/
noncomputable abbrev RdC (nx : Nat → Int) (e c0 p : Nat) (L : List Tok) (σ : Sg) : Prop :=
  (gr σ c0 9 = some 50) ∧ ((gi σ c0 10).toInt = (e : Int)) ∧ (∀ q, q < e → (gi σ 50 q).toInt = nx q) ∧ ((gi σ c0 11).toInt = (p : Int)) ∧ (CDc σ c0 L) ∧ (p ≤ e) ∧ (L.length ≤ p)
theorem RdC.t {nx : Nat → Int} {e c0 p : Nat} {L : List Tok} {σ : Sg} (h : RdC nx e c0 p L σ) : gr σ c0 9 = some 50 := h.1
theorem RdC.en {nx : Nat → Int} {e c0 p : Nat} {L : List Tok} {σ : Sg} (h : RdC nx e c0 p L σ) : (gi σ c0 10).toInt = (e : Int) := h.2.1
theorem RdC.tx {nx : Nat → Int} {e c0 p : Nat} {L : List Tok} {σ : Sg} (h : RdC nx e c0 p L σ) : ∀ q, q < e → (gi σ 50 q).toInt = nx q := h.2.2.1
theorem RdC.at_ {nx : Nat → Int} {e c0 p : Nat} {L : List Tok} {σ : Sg} (h : RdC nx e c0 p L σ) : (gi σ c0 11).toInt = (p : Int) := h.2.2.2.1
theorem RdC.cd {nx : Nat → Int} {e c0 p : Nat} {L : List Tok} {σ : Sg} (h : RdC nx e c0 p L σ) : CDc σ c0 L := h.2.2.2.2.1
theorem RdC.le {nx : Nat → Int} {e c0 p : Nat} {L : List Tok} {σ : Sg} (h : RdC nx e c0 p L σ) : p ≤ e := h.2.2.2.2.2.1
theorem RdC.ll {nx : Nat → Int} {e c0 p : Nat} {L : List Tok} {σ : Sg} (h : RdC nx e c0 p L σ) : L.length ≤ p := h.2.2.2.2.2.2
noncomputable def FXc (c0 : Nat) (σ σ' : Sg) : Prop := FX (fun id => id = c0 + 1) (fun id k => id = c0 ∧ (k = 4 ∨ k = 11)) σ σ'
theorem FXc_rf {c0 : Nat} {σ : Sg} : FXc c0 σ σ := FX_rf
theorem FXc_tr {c0 : Nat} {σ σ1 σ2 : Sg} (f : FXc c0 σ σ1) (g : FXc c0 σ1 σ2) : FXc c0 σ σ2 := FX_tr f g (fun _ h => h) (fun _ _ h => Or.inr h)
theorem signC {nx e c0 p L σ} (hx : NXo nx e) (h : RdC nx e c0 p L σ) : ∃ r : Int32, F_X2_sign c0 σ = (r, σ) ∧ r.toInt = nx p := by
  unfold F_X2_sign
  rw [h.t]
  show ∃ r : Int32, (if (gi σ c0 10) ≤ (gi σ c0 11) then ((-1 : Int32), σ) else (gi σ 50 (gi σ c0 11).toNatClampNeg, σ)) = (r, σ) ∧ r.toInt = nx p
  have a := h.at_
  have b := h.en
  by_cases q : (gi σ c0 10) ≤ (gi σ c0 11)
  · have q' := Int32.le_iff_toInt_le.mp q
    rw [if_pos q]
    exact ⟨_, rfl, (hx.hn p (by omega)).symm⟩
  · have q' : ¬ (gi σ c0 10).toInt ≤ (gi σ c0 11).toInt := fun h9 => q (Int32.le_iff_toInt_le.mpr h9)
    rw [if_neg q]
    have ec := cl_eq (x := gi σ c0 11) (by omega)
    exact ⟨_, rfl, by rw [show (gi σ c0 11).toNatClampNeg = p from by omega]; exact h.tx p (by omega)⟩
/-- on by one sign -/
theorem advC {nx e c0 p L σ} (hx : NXo nx e) (hc : 69 ≤ c0) (h : RdC nx e c0 p L σ) (hp : p < e) : RdC nx e c0 (p + 1) L (si σ c0 11 ((gi σ c0 11) + (1 : Int32))) ∧ FXc c0 σ (si σ c0 11 ((gi σ c0 11) + (1 : Int32))) := by
  have a := h.at_
  have l := hx.le
  have t1 : ((gi σ c0 11) + (1 : Int32)).toInt = (gi σ c0 11).toInt + 1 := i_add (y := (1 : Int32)) (by show (_ : Int) ≤ (gi σ c0 11).toInt + 1; omega) (by show (gi σ c0 11).toInt + 1 ≤ (_ : Int); omega)
  refine ⟨⟨h.t, ?_, ?_, ?_, ⟨?_, ?_⟩, hp, Nat.le_succ_of_le h.ll⟩, FX_si FX_rf (Or.inr ⟨rfl, Or.inr rfl⟩)⟩
  · rw [gi_si_ne (Or.inr (by decide +kernel))]; exact h.en
  · intro q hq; rw [gi_si_ne (Or.inl (by omega))]; exact h.tx q hq
  · rw [gi_si_eq, t1]; omega
  · rw [gi_si_ne (Or.inr (by decide +kernel))]; exact h.cd.1
  · intro j t ht; rw [gi_si_ne (Or.inl (by omega))]; exact h.cd.2 j t ht
theorem ltC {nx e p} {c : Int} (hx : NXo nx e) (h : nx p = c) (hc : 0 ≤ c) : p < e := Nat.lt_of_not_le (fun h9 => by rw [hx.hn p h9] at h; omega)
theorem takesC_t {nx e c0 p L σ} {op : Int32} {c : Int} (hx : NXo nx e) (hc : 69 ≤ c0) (h : RdC nx e c0 p L σ) (ho : op.toInt = c) (h0 : 0 ≤ c) (q : nx p = c) : F_X2_takes c0 op σ = (1, si σ c0 11 ((gi σ c0 11) + (1 : Int32))) ∧ RdC nx e c0 (p + 1) L (si σ c0 11 ((gi σ c0 11) + (1 : Int32))) ∧ FXc c0 σ (si σ c0 11 ((gi σ c0 11) + (1 : Int32))) := by
  obtain ⟨r, e1, e2⟩ := signC hx h
  refine ⟨?_, advC hx hc h (ltC hx q h0)⟩
  unfold F_X2_takes
  rw [e1]
  show (if r = op then _ else _) = _
  rw [if_pos (Int32.toInt_inj.mp (by rw [e2, ho, q]))]
  rfl
theorem takesC_f {nx e c0 p L σ} {op : Int32} {c : Int} (hx : NXo nx e) (h : RdC nx e c0 p L σ) (ho : op.toInt = c) (q : ¬ nx p = c) : F_X2_takes c0 op σ = (0, σ) := by
  obtain ⟨r, e1, e2⟩ := signC hx h
  unfold F_X2_takes
  rw [e1]
  show (if r = op then _ else _) = _
  rw [if_neg (fun h9 => q (by rw [← e2, h9, ho]))]
/-- one sign of the code more -/
theorem writesC {nx e c0 p L σ} {v : Int32} {t : Tok} (hx : NXo nx e) (hc : 69 ≤ c0) (h : RdC nx e c0 p L σ) (hl : L.length < p) (hv : v = encC t) : RdC nx e c0 p (L ++ [t]) (F_X2_writes c0 v σ) ∧ FXc c0 σ (F_X2_writes c0 v σ) := by
  have a := h.cd.1
  have l := hx.le
  have l2 := h.le
  have z100 : (100 : Int32).toInt = 100 := rfl
  have q : ¬ (100 : Int32) ≤ gi σ c0 4 := fun h9 => by have := Int32.le_iff_toInt_le.mp h9; omega
  have ec := cl_eq (x := gi σ c0 4) (by omega)
  have ek : (gi σ c0 4).toNatClampNeg = L.length := by omega
  have t1 : ((gi σ c0 4) + (1 : Int32)).toInt = (gi σ c0 4).toInt + 1 := i_add (y := (1 : Int32)) (by show (_ : Int) ≤ (gi σ c0 4).toInt + 1; omega) (by show (gi σ c0 4).toInt + 1 ≤ (_ : Int); omega)
  have e1 : F_X2_writes c0 v σ = si (si σ (c0 + 1) L.length v) c0 4 ((gi σ c0 4) + (1 : Int32)) := by
    unfold F_X2_writes
    rw [if_neg q, ek]
    show si (si σ (c0 + 1) L.length v) c0 4 ((gi (si σ (c0 + 1) L.length v) c0 4) + (1 : Int32)) = _
    rw [gi_si_ne (Or.inl (by omega))]
  rw [e1]
  refine ⟨⟨h.t, ?_, ?_, ?_, ⟨?_, ?_⟩, h.le, ?_⟩, FX_si (FX_si FX_rf (Or.inl rfl)) (Or.inr ⟨rfl, Or.inl rfl⟩)⟩
  · rw [gi_si_ne (Or.inr (by decide +kernel)), gi_si_ne (Or.inl (by omega))]; exact h.en
  · intro q hq; rw [gi_si_ne (Or.inl (by omega)), gi_si_ne (Or.inl (by omega))]; exact h.tx q hq
  · rw [gi_si_ne (Or.inr (by decide +kernel)), gi_si_ne (Or.inl (by omega))]; exact h.at_
  · rw [gi_si_eq, t1, List.length_append]; show _ = ((L.length + 1 : Nat) : Int); omega
  · intro j t' ht
    rw [gi_si_ne (Or.inl (by omega)), gi_si]
    by_cases hj : j = L.length
    · rw [if_pos ⟨rfl, hj⟩, hv]
      rw [hj, List.getElem?_append_right (Nat.le_refl _), Nat.sub_self] at ht
      cases ht; rfl
    · rw [if_neg (fun h9 => hj h9.2)]
      have hj2 : j < L.length := by
        have := (List.getElem?_eq_some_iff.mp ht).1
        rw [List.length_append] at this
        have : j < L.length + 1 := this
        omega
      rw [List.getElem?_append_left hj2] at ht
      exact h.cd.2 j t' ht
  · rw [List.length_append]; exact hl
/-- f on σ is R -/
noncomputable def RCr (nx : Nat → Int) (e c0 p : Nat) (L : List Tok) (σ : Sg) (x : Int32 × Sg) (R : PRd) : Prop :=
  (R.1 = true → x.1 = 1 ∧ RdC nx e c0 R.2.1 (L ++ R.2.2) x.2 ∧ p + R.2.2.length ≤ R.2.1 ∧ p + 1 ≤ R.2.1) ∧ (R.1 = false → x.1 = 0 ∧ (gi x.2 c0 11).toInt = (R.2.1 : Int)) ∧ FXc c0 σ x.2
noncomputable def SpC (nx : Nat → Int) (e c0 : Nat) (f : Sg → Int32 × Sg) (g : Nat → PRd) : Prop := ∀ p L σ, RdC nx e c0 p L σ → RCr nx e c0 p L σ (f σ) (g p)
noncomputable def σd : Sg := (fun _ _ => 0, fun _ _ => 0, fun _ _ => none)
theorem ixL {a1 : Nat} {σ : Sg} : ∀ n x3 x4 x5, LF_J1_indexOfChar_4cfef a1 n x3 x4 x5 σ = ((LF_J1_indexOfChar_4cfef a1 n x3 x4 x5 σd).1, σ) := by
  intro n
  induction n with
  | zero => intro x3 x4 x5; rfl
  | succ n ih =>
    intro x3 x4 x5
    show LB_J1_indexOfChar_4cfef_7 a1 (LF_J1_indexOfChar_4cfef a1 n) x3 x4 x5 σ = ((LB_J1_indexOfChar_4cfef_7 a1 (LF_J1_indexOfChar_4cfef a1 n) x3 x4 x5 σd).1, σ)
    unfold LB_J1_indexOfChar_4cfef_7
    by_cases h1 : x3 ≤ x5
    · rw [if_pos h1, if_pos h1]
    · rw [if_neg h1, if_neg h1]
      by_cases h2 : sby a1 x5.toNatClampNeg = x4
      · rw [if_pos h2, if_pos h2]
      · rw [if_neg h2, if_neg h2]
        exact ih x3 x4 (x5 + 1)
theorem ixo {a1 : Nat} {ch : Int32} {σ : Sg} (h0 : ¬ ch < 0) (h1 : ¬ (255 : Int32) < ch) : F_J0_indexOf_0f7a4 a1 ch σ = ((F_J0_indexOf_0f7a4 a1 ch σd).1, σ) := by
  have e : ∀ τ : Sg, F_J0_indexOf_0f7a4 a1 ch τ = (if jmax (0 : Int32) (0 : Int32) < jmin (nI (slen a1)) (nI (slen a1)) then LF_J1_indexOfChar_4cfef a1 9 (jmin (nI (slen a1)) (nI (slen a1))) ch.toInt8.toInt32 (jmax (0 : Int32) (0 : Int32)) τ else ((-1 : Int32), τ)) := by
    intro τ
    unfold F_J0_indexOf_0f7a4 F_J0_indexOf_7cf53 F_J0_isLatin1_aae02
    show (F_J1_indexOf_4cfef a1 ch (0 : Int32) (nI (slen a1)) τ) = _
    unfold F_J1_indexOf_4cfef F_J1_canEncode_9a6ad
    rw [if_neg h0, if_neg h1]
    rfl
  rw [e σ, e σd]
  by_cases h : jmax (0 : Int32) (0 : Int32) < jmin (nI (slen a1)) (nI (slen a1))
  · rw [if_pos h, if_pos h]; exact ixL _ _ _ _
  · rw [if_neg h, if_neg h]
noncomputable def ltr (c : Int) : Option Nat := if c = 109 then some 0 else if c = 107 then some 1 else if c = 112 then some 2 else if c = 101 then some 3 else if c = 116 then some 4 else if c = 100 then some 5 else none
noncomputable def cmpn (c : Int) : Option Nat := if c = 60 then some 0 else if c = 61 then some 1 else if c = 62 then some 2 else none
noncomputable def wrd (c : Int) : Option Nat := if c = 102 then some 0 else if c = 115 then some 1 else if c = 103 then some 2 else if c = 116 then some 3 else if c = 108 then some 4 else none
noncomputable def oI (o : Option Nat) : Int32 := match o with | none => -1 | some f => Int32.ofNat f
theorem ixtab : ∀ n, n < 128 → ¬ (((Int32.ofNat n).toUInt32 % 65536).toInt32 < 0) ∧ ¬ ((255 : Int32) < ((Int32.ofNat n).toUInt32 % 65536).toInt32) ∧ (F_J0_indexOf_0f7a4 6 (((Int32.ofNat n).toUInt32 % 65536).toInt32) σd).1 = oI (ltr n) ∧ (F_J0_indexOf_0f7a4 7 (((Int32.ofNat n).toUInt32 % 65536).toInt32) σd).1 = oI (cmpn n) ∧ (F_J0_indexOf_0f7a4 0 (((Int32.ofNat n).toUInt32 % 65536).toInt32) σd).1 = oI (wrd n) := by decide +kernel
theorem nx_n {nx e p} (hx : NXo nx e) (hp : p < e) : ∃ n : Nat, n < 128 ∧ nx p = n := by
  obtain ⟨a, b⟩ := hx.hb p hp
  exact ⟨(nx p).toNat, by omega, by omega⟩
theorem amongC {nx e c0 p L σ} {a1 : Nat} {g : Int → Option Nat} (hx : NXo nx e) (h : RdC nx e c0 p L σ) (hg : g (-1) = none) (hT : ∀ n, n < 128 → (F_J0_indexOf_0f7a4 a1 (((Int32.ofNat n).toUInt32 % 65536).toInt32) σd).1 = oI (g n)) : F_X2_signAmong c0 a1 σ = (oI (g (nx p)), σ) := by
  obtain ⟨r, e1, e2⟩ := signC hx h
  unfold F_X2_signAmong
  rw [e1]
  show (if 0 ≤ r then fb (F_J0_indexOf_0f7a4 a1 ((r.toUInt32 % 65536).toInt32) σ) (fun r5 σ4 => (r5, σ4)) else ((-1 : Int32), σ)) = _
  by_cases q : 0 ≤ r
  · have q' : (0 : Int) ≤ r.toInt := Int32.le_iff_toInt_le.mp q
    have hp : p < e := Nat.lt_of_not_le (fun h9 => by rw [hx.hn p h9] at e2; omega)
    obtain ⟨n, hn, en⟩ := nx_n hx hp
    have er : r = Int32.ofNat n := by
      apply Int32.toInt_inj.mp
      rw [e2, en]
      exact (Int32.toInt_ofNat_of_lt (by omega)).symm
    rw [if_pos q, er]
    obtain ⟨t1, t2, -⟩ := ixtab n hn
    rw [ixo t1 t2, hT n hn, en]
    rfl
  · have q' : ¬ (0 : Int) ≤ r.toInt := fun h9 => q (Int32.le_iff_toInt_le.mpr h9)
    rw [if_neg q]
    have hp : nx p = -1 := by
      rw [e2] at q'
      by_cases hp : p < e
      · have := (hx.hb p hp).1; omega
      · exact hx.hn p (by omega)
    rw [hp, hg]
    rfl
theorem fb_e {α β : Type} {r : α} {s : Sg} {f : α → Sg → β} : fb (r, s) f = f r s := Eq.trans rfl rfl
theorem fl_e {α β : Type} {a : α} {f : α → β} : fl a f = f a := Eq.trans rfl rfl
noncomputable def dig (c : Int) : Bool := decide (48 ≤ c ∧ c ≤ 57)
/-- a number of one or two digits: whether, up to where, which -/
noncomputable def pnum (nx : Nat → Int) (p : Nat) : Bool × Nat × Nat :=
  if dig (nx p) = true then (if dig (nx (p + 1)) = true then (true, p + 2, 10 * (nx p - 48).toNat + (nx (p + 1) - 48).toNat) else (true, p + 1, (nx p - 48).toNat)) else (false, p, 0)
noncomputable def ptest (nx : Nat → Int) (p : Nat) : PRd :=
  match ltr (nx p) with
  | none => (false, p, [])
  | some f => match cmpn (nx (p + 1)) with
    | none => (false, p + 1, [])
    | some s => if (pnum nx (p + 2)).1 = true then (true, (pnum nx (p + 2)).2.1, [.T f s (pnum nx (p + 2)).2.2]) else (false, (pnum nx (p + 2)).2.1, [])
theorem digitC {nx e c0 p L σ} (hx : NXo nx e) (h : RdC nx e c0 p L σ) : F_X2_isDigit c0 σ = (if dig (nx p) = true then 1 else 0, σ) := by
  obtain ⟨r, e1, e2⟩ := signC hx h
  unfold F_X2_isDigit
  rw [e1]
  show (if r < (48 : Int32) then ((0 : Int32), σ) else fb (F_X2_sign c0 σ) (fun r5 σ4 => (if (57 : Int32) < r5 then ((0 : Int32), σ4) else ((1 : Int32), σ4)))) = _
  rw [e1]
  show (if r < (48 : Int32) then ((0 : Int32), σ) else (if (57 : Int32) < r then ((0 : Int32), σ) else ((1 : Int32), σ))) = _
  have z1 : (48 : Int32).toInt = 48 := rfl
  have z2 : (57 : Int32).toInt = 57 := rfl
  by_cases q1 : r < (48 : Int32)
  · have q1' := Int32.lt_iff_toInt_lt.mp q1
    rw [if_pos q1, if_neg (show ¬ dig (nx p) = true from fun h9 => by have := of_decide_eq_true h9; omega)]
  · have q1' : ¬ r.toInt < (48 : Int32).toInt := fun h9 => q1 (Int32.lt_iff_toInt_lt.mpr h9)
    rw [if_neg q1]
    by_cases q2 : (57 : Int32) < r
    · have q2' := Int32.lt_iff_toInt_lt.mp q2
      rw [if_pos q2, if_neg (show ¬ dig (nx p) = true from fun h9 => by have := of_decide_eq_true h9; omega)]
    · have q2' : ¬ (57 : Int32).toInt < r.toInt := fun h9 => q2 (Int32.lt_iff_toInt_lt.mpr h9)
      rw [if_neg q2, if_pos (show dig (nx p) = true from decide_eq_true (by omega))]
theorem numC {nx e c0 p L σ} (hx : NXo nx e) (hc : 69 ≤ c0) (h : RdC nx e c0 p L σ) :
    ((pnum nx p).1 = true → ∃ r σ', F_X2_readsNumber c0 σ = (r, σ') ∧ r.toInt = ((pnum nx p).2.2 : Int) ∧ (pnum nx p).2.2 ≤ 99 ∧ RdC nx e c0 (pnum nx p).2.1 L σ' ∧ FXc c0 σ σ' ∧ p + 1 ≤ (pnum nx p).2.1) ∧ ((pnum nx p).1 = false → F_X2_readsNumber c0 σ = (-1, σ) ∧ (pnum nx p).2.1 = p) := by
  unfold F_X2_readsNumber
  rw [digitC hx h]
  by_cases d0 : dig (nx p) = true
  · have b0 := of_decide_eq_true d0
    have hp : p < e := ltC hx rfl (by omega)
    obtain ⟨a1, a2⟩ := advC hx hc h hp
    obtain ⟨r, s1, s2⟩ := signC hx h
    have z48 : (48 : Int32).toInt = 48 := rfl
    have t1 : (r - (48 : Int32)).toInt = r.toInt - 48 := i_sub (y := (48 : Int32)) (by show (_ : Int) ≤ r.toInt - 48; omega) (by show r.toInt - 48 ≤ (_ : Int); omega)
    obtain ⟨σ7, e7⟩ : ∃ σ7, σ7 = si σ c0 11 ((gi σ c0 11) + (1 : Int32)) := ⟨_, rfl⟩
    rw [← e7] at a1 a2
    rw [if_pos d0]
    show _ ∧ _
    have E : fb ((1 : Int32), σ) (fun r2 σ1 => (if r2 = 0 then ((-1 : Int32), σ1) else fb (F_X2_sign c0 σ1) (fun r5 σ4 => fl (r5 - (48 : Int32)) (fun v6 => fl (si σ4 c0 11 ((gi σ4 c0 11) + (1 : Int32))) (fun σ7 => fb (F_X2_isDigit c0 σ7) (fun r9 σ8 => (if r9 = 0 then (v6, σ8) else fb (F_X2_sign c0 σ8) (fun r12 σ11 => fl ((((10 : Int32) * v6) + r12) - (48 : Int32)) (fun v13 => fl (si σ11 c0 11 ((gi σ11 c0 11) + (1 : Int32))) (fun σ14 => (v13, σ14)))))))))))
        = (if dig (nx (p + 1)) = true then fb (F_X2_sign c0 σ7) (fun r12 σ11 => fl ((((10 : Int32) * (r - (48 : Int32))) + r12) - (48 : Int32)) (fun v13 => fl (si σ11 c0 11 ((gi σ11 c0 11) + (1 : Int32))) (fun σ14 => (v13, σ14)))) else (r - (48 : Int32), σ7)) := by
      rw [fb_e, if_neg (show ¬ (1 : Int32) = 0 by decide +kernel), s1]
      simp only [fb_e, fl_e]
      rw [← e7, digitC hx a1]
      by_cases d1 : dig (nx (p + 1)) = true
      · rw [if_pos d1, if_pos d1, fb_e, if_neg (show ¬ (1 : Int32) = 0 by decide +kernel)]
      · rw [if_neg d1, if_neg d1]; rfl
    rw [E]
    by_cases d1 : dig (nx (p + 1)) = true
    · have b1 := of_decide_eq_true d1
      have hp1 : p + 1 < e := ltC hx rfl (by omega)
      obtain ⟨a3, a4⟩ := advC hx hc a1 hp1
      obtain ⟨r1, u1, u2⟩ := signC hx a1
      have ep : pnum nx p = (true, p + 2, 10 * (nx p - 48).toNat + (nx (p + 1) - 48).toNat) := by unfold pnum; rw [if_pos d0, if_pos d1]
      rw [ep, if_pos d1, u1]
      have m1 : ((10 : Int32) * (r - (48 : Int32))).toInt = 10 * (r - (48 : Int32)).toInt := i_mull rfl (by omega) (by omega)
      have m2 : (((10 : Int32) * (r - (48 : Int32))) + r1).toInt = ((10 : Int32) * (r - (48 : Int32))).toInt + r1.toInt := i_add (by omega) (by omega)
      have m3 : ((((10 : Int32) * (r - (48 : Int32))) + r1) - (48 : Int32)).toInt = (((10 : Int32) * (r - (48 : Int32))) + r1).toInt - 48 := i_sub (y := (48 : Int32)) (by show (_ : Int) ≤ (((10 : Int32) * (r - (48 : Int32))) + r1).toInt - 48; omega) (by show (((10 : Int32) * (r - (48 : Int32))) + r1).toInt - 48 ≤ (_ : Int); omega)
      refine ⟨fun _ => ⟨_, _, rfl, ?_, ?_, a3, FXc_tr a2 a4, by show p + 1 ≤ p + 2; omega⟩, fun h9 => by cases h9⟩
      · show ((((10 : Int32) * (r - (48 : Int32))) + r1) - (48 : Int32)).toInt = ((10 * (nx p - 48).toNat + (nx (p + 1) - 48).toNat : Nat) : Int)
        rw [m3, m2, m1, t1, s2, u2]; omega
      · show 10 * (nx p - 48).toNat + (nx (p + 1) - 48).toNat ≤ 99
        omega
    · have ep : pnum nx p = (true, p + 1, (nx p - 48).toNat) := by unfold pnum; rw [if_pos d0, if_neg d1]
      rw [ep, if_neg d1]
      refine ⟨fun _ => ⟨_, _, rfl, ?_, ?_, a1, a2, Nat.le_refl _⟩, fun h9 => by cases h9⟩
      · show (r - (48 : Int32)).toInt = ((nx p - 48).toNat : Int)
        rw [t1, s2]; omega
      · show (nx p - 48).toNat ≤ 99
        omega
  · have ep : pnum nx p = (false, p, 0) := by unfold pnum; rw [if_neg d0]
    rw [ep, if_neg d0]
    exact ⟨fun h9 => (by cases h9), fun _ => ⟨rfl, rfl⟩⟩
theorem ltr_lt {c : Int} {f : Nat} (h : ltr c = some f) : f ≤ 5 ∧ 0 ≤ c := by
  unfold ltr at h
  repeat' split at h
  all_goals first | (cases h; exact ⟨by decide +kernel, by omega⟩) | cases h
theorem cmp_lt {c : Int} {f : Nat} (h : cmpn c = some f) : f ≤ 2 ∧ 0 ≤ c := by
  unfold cmpn at h
  repeat' split at h
  all_goals first | (cases h; exact ⟨by decide +kernel, by omega⟩) | cases h
theorem oI_some {f : Nat} (h : f ≤ 5) : (oI (some f)).toInt = f := Int32.toInt_ofNat_of_lt (by omega)
theorem oI_ge {f : Nat} (h : f ≤ 5) : (0 : Int32) ≤ oI (some f) := Int32.le_iff_toInt_le.mpr (by rw [oI_some h]; show (0 : Int) ≤ _; omega)
theorem testC {nx e c0} (hx : NXo nx e) (hc : 69 ≤ c0) : SpC nx e c0 (F_X2_readsTest c0) (ptest nx) := by
  intro p L σ h
  have g1 := amongC (a1 := 6) (g := ltr) hx h rfl (fun n hn => (ixtab n hn).2.2.1)
  unfold F_X2_readsTest ptest
  rw [g1, fb_e]
  cases e1 : ltr (nx p) with
  | none =>
    rw [if_neg (show ¬ (0 : Int32) ≤ oI none by decide +kernel)]
    exact ⟨fun h9 => (by cases h9), fun _ => ⟨rfl, h.at_⟩, FXc_rf⟩
  | some f =>
    obtain ⟨f5, c0'⟩ := ltr_lt e1
    obtain ⟨a1, a2⟩ := advC hx hc h (ltC hx rfl c0')
    obtain ⟨σ4, e4⟩ : ∃ σ4, σ4 = si σ c0 11 ((gi σ c0 11) + (1 : Int32)) := ⟨_, rfl⟩
    rw [if_pos (oI_ge f5), ← e4, fl_e]
    rw [← e4] at a1 a2
    have g2 := amongC (a1 := 7) (g := cmpn) hx a1 rfl (fun n hn => (ixtab n hn).2.2.2.1)
    rw [g2, fb_e]
    show RCr nx e c0 p L σ _ (match cmpn (nx (p + 1)) with | none => (false, p + 1, []) | some s => if (pnum nx (p + 2)).1 = true then (true, (pnum nx (p + 2)).2.1, [.T f s (pnum nx (p + 2)).2.2]) else (false, (pnum nx (p + 2)).2.1, []))
    cases e2 : cmpn (nx (p + 1)) with
    | none =>
      rw [if_neg (show ¬ (0 : Int32) ≤ oI none by decide +kernel)]
      exact ⟨fun h9 => (by cases h9), fun _ => ⟨rfl, a1.at_⟩, a2⟩
    | some s =>
      obtain ⟨s2, c1'⟩ := cmp_lt e2
      obtain ⟨a3, a4⟩ := advC hx hc a1 (ltC hx rfl c1')
      obtain ⟨σ8, e8⟩ : ∃ σ8, σ8 = si σ4 c0 11 ((gi σ4 c0 11) + (1 : Int32)) := ⟨_, rfl⟩
      rw [if_pos (oI_ge (by omega)), ← e8, fl_e]
      rw [← e8] at a3 a4
      replace a3 : RdC nx e c0 (p + 2) L σ8 := a3
      have g3 := numC hx hc a3
      show RCr nx e c0 p L σ _ (if (pnum nx (p + 2)).1 = true then (true, (pnum nx (p + 2)).2.1, [.T f s (pnum nx (p + 2)).2.2]) else (false, (pnum nx (p + 2)).2.1, []))
      by_cases hn : (pnum nx (p + 2)).1 = true
      · obtain ⟨r, σ9, r1, r2, r3, r4, r5, r6⟩ := g3.1 hn
        have hr : (0 : Int32) ≤ r := Int32.le_iff_toInt_le.mpr (by rw [r2]; show (0 : Int) ≤ _; omega)
        rw [r1, fb_e, if_pos hr, if_pos hn, fl_e]
        have of := oI_some f5
        have os := oI_some (f := s) (by omega)
        have m1 : (oI (some f) * (300 : Int32)).toInt = (oI (some f)).toInt * 300 := i_mulr rfl (by omega) (by omega)
        have m2 : (oI (some s) * (100 : Int32)).toInt = (oI (some s)).toInt * 100 := i_mulr rfl (by omega) (by omega)
        have m3 : (oI (some f) * (300 : Int32) + oI (some s) * (100 : Int32)).toInt = (oI (some f) * (300 : Int32)).toInt + (oI (some s) * (100 : Int32)).toInt := i_add (by omega) (by omega)
        have m4 : (oI (some f) * (300 : Int32) + oI (some s) * (100 : Int32) + r).toInt = (oI (some f) * (300 : Int32) + oI (some s) * (100 : Int32)).toInt + r.toInt := i_add (by omega) (by omega)
        have ev : (oI (some f) * (300 : Int32) + oI (some s) * (100 : Int32) + r) = encC (.T f s (pnum nx (p + 2)).2.2) := by
          apply Int32.toInt_inj.mp
          show _ = (Int32.ofNat (f * 300 + s * 100 + (pnum nx (p + 2)).2.2)).toInt
          rw [Int32.toInt_ofNat_of_lt (by omega), m4, m3, m1, m2, of, os, r2]
          omega
        obtain ⟨w1, w2⟩ := writesC hx hc r4 (by have := h.ll; omega) ev
        refine ⟨fun _ => ⟨rfl, w1, ?_, ?_⟩, fun h9 => (by cases h9), FXc_tr a2 (FXc_tr a4 (FXc_tr r5 w2))⟩
        · show p + 1 ≤ (pnum nx (p + 2)).2.1; omega
        · show p + 1 ≤ (pnum nx (p + 2)).2.1; omega
      · have hn' : (pnum nx (p + 2)).1 = false := Bool.eq_false_iff.mpr hn
        obtain ⟨r1, r2⟩ := g3.2 hn'
        rw [r1, fb_e, if_neg (show ¬ (0 : Int32) ≤ -1 by decide +kernel), if_neg hn, r2]
        exact ⟨fun h9 => (by cases h9), fun _ => ⟨rfl, a3.at_⟩, FXc_tr a2 a4⟩
noncomputable def gLF (c0 : Nat) (f : Sg → Int32 × Sg) (op code : Int32) : Nat → Int32 → Sg → Int32 × Sg
  | 0, _, σ => (0, σ)
  | n + 1, x2, σ => if (100 : Int32) ≤ x2 then ((1 : Int32), σ) else fb (F_X2_takes c0 op σ) (fun r3 σ2 => (if r3 = 0 then ((1 : Int32), σ2) else fb (f σ2) (fun r6 σ5 => (if r6 = 0 then ((0 : Int32), σ5) else fl (F_X2_writes c0 code σ5) (fun σ8 => fl (x2 + 1) (fun v9 => gLF c0 f op code n v9 σ8))))))
noncomputable def RLr (nx : Nat → Int) (e c0 p : Nat) (L : List Tok) (σ : Sg) (x : Int32 × Sg) (R : PRd) : Prop :=
  (R.1 = true → x.1 = 1 ∧ RdC nx e c0 R.2.1 (L ++ R.2.2) x.2 ∧ p + R.2.2.length ≤ R.2.1) ∧ (R.1 = false → x.1 = 0 ∧ (gi x.2 c0 11).toInt = (R.2.1 : Int)) ∧ FXc c0 σ x.2
theorem loopC {nx e c0} {f : Sg → Int32 × Sg} {g : Nat → PRd} {op code : Int32} {c : Int} {tk : Tok} (hx : NXo nx e) (hc : 69 ≤ c0) (hf : SpC nx e c0 f g) (ho : op.toInt = c) (h0 : 0 ≤ c) (hv : code = encC tk) :
    ∀ n m p L σ x2 (i : Nat), x2.toInt = (i : Int) → i ≤ p → 101 ≤ n + i → e < m + p → RdC nx e c0 p L σ → RLr nx e c0 p L σ (gLF c0 f op code n x2 σ) (pch nx c tk g m p) := by
  intro n
  induction n with
  | zero => intro m p L σ x2 i h1 h2 h3 h4 h; have := h.le; have := hx.le; omega
  | succ n ih =>
    intro m p L σ x2 i h1 h2 h3 h4 h
    cases m with
    | zero => have := h.le; omega
    | succ m =>
      have z100 : (100 : Int32).toInt = 100 := rfl
      show RLr nx e c0 p L σ (if (100 : Int32) ≤ x2 then _ else _) (if nx p = c then _ else _)
      by_cases q : (100 : Int32) ≤ x2
      · have q' := Int32.le_iff_toInt_le.mp q
        have hn : nx p = -1 := hx.hn p (by have := hx.le; omega)
        rw [if_pos q, if_neg (show ¬ nx p = c by omega)]
        exact ⟨fun _ => ⟨rfl, by rw [List.append_nil]; exact h, Nat.le_refl _⟩, fun h9 => (by cases h9), FXc_rf⟩
      · have q' : ¬ (100 : Int32).toInt ≤ x2.toInt := fun h9 => q (Int32.le_iff_toInt_le.mpr h9)
        rw [if_neg q]
        by_cases hp : nx p = c
        · obtain ⟨t1, t2, t3⟩ := takesC_t hx hc h ho h0 hp
          rw [t1, fb_e, if_neg (show ¬ (1 : Int32) = 0 by decide +kernel), if_pos hp]
          have r := hf (p + 1) L _ t2
          by_cases hr : (g (p + 1)).1 = true
          · obtain ⟨u1, u2, u3, u4⟩ := r.1 hr
            have E : ∀ {y : Int32 × Sg} {A B : Int32 × Sg → Int32 × Sg}, y.1 = 1 → fb y (fun r6 σ5 => (if r6 = 0 then A (r6, σ5) else B (r6, σ5))) = B y := fun {y A B} hy => by
              show (if y.1 = 0 then A y else B y) = B y
              rw [if_neg (by rw [hy]; decide)]
            have hl : (L ++ (g (p + 1)).2.2).length < (g (p + 1)).2.1 := by rw [List.length_append]; have := h.ll; omega
            obtain ⟨w1, w2⟩ := writesC hx hc u2 hl hv
            have t9 : (x2 + (1 : Int32)).toInt = x2.toInt + 1 := i_add (y := (1 : Int32)) (by show (_ : Int) ≤ x2.toInt + 1; omega) (by show x2.toInt + 1 ≤ (_ : Int); omega)
            have k := ih m (g (p + 1)).2.1 _ _ (x2 + 1) (i + 1) (by rw [t9]; omega) (by omega) (by omega) (by omega) w1
            refine Eq.mpr (congrArg (fun z => RLr nx e c0 p L σ z _) (E (A := fun y => (0, y.2)) (B := fun y => gLF c0 f op code n (x2 + 1) (F_X2_writes c0 code y.2)) u1)) ?_
            rw [if_pos hr]
            refine ⟨fun h9 => ?_, fun h9 => k.2.1 h9, FXc_tr t3 (FXc_tr r.2.2 (FXc_tr w2 k.2.2))⟩
            obtain ⟨k1, k2, k3⟩ := k.1 h9
            refine ⟨k1, ?_, ?_⟩
            · simp only [List.append_assoc, List.cons_append, List.nil_append] at k2 ⊢
              exact k2
            · show p + ((g (p + 1)).2.2 ++ tk :: (pch nx c tk g m (g (p + 1)).2.1).2.2).length ≤ (pch nx c tk g m (g (p + 1)).2.1).2.1
              rw [List.length_append, List.length_cons]
              omega
          · have hr' : (g (p + 1)).1 = false := Bool.eq_false_iff.mpr hr
            obtain ⟨u1, u2⟩ := r.2.1 hr'
            have E : ∀ {y : Int32 × Sg} {A B : Int32 × Sg → Int32 × Sg}, y.1 = 0 → fb y (fun r6 σ5 => (if r6 = 0 then A (r6, σ5) else B (r6, σ5))) = A y := fun {y A B} hy => by
              show (if y.1 = 0 then A y else B y) = A y
              rw [if_pos hy]
            refine Eq.mpr (congrArg (fun z => RLr nx e c0 p L σ z _) (E (A := fun y => (0, y.2)) (B := fun y => gLF c0 f op code n (x2 + 1) (F_X2_writes c0 code y.2)) u1)) ?_
            rw [if_neg hr]
            exact ⟨fun h9 => (by cases h9), fun _ => ⟨rfl, u2⟩, FXc_tr t3 r.2.2⟩
        · rw [takesC_f hx h ho hp, fb_e, if_pos rfl, if_neg hp]
          exact ⟨fun _ => ⟨rfl, by rw [List.append_nil]; exact h, Nat.le_refl _⟩, fun h9 => (by cases h9), FXc_rf⟩
theorem chainC {nx e c0} {f F : Sg → Int32 × Sg} {g : Nat → PRd} {op code : Int32} {c : Int} {tk : Tok} (hx : NXo nx e) (hc : 69 ≤ c0) (hf : SpC nx e c0 f g) (ho : op.toInt = c) (h0 : 0 ≤ c) (hv : code = encC tk)
    (hF : ∀ σ, F σ = fb (f σ) (fun r2 σ1 => (if r2 = 0 then ((0 : Int32), σ1) else gLF c0 f op code 200 (0 : Int32) σ1))) : SpC nx e c0 F (pchain nx c tk g) := by
  intro p L σ h
  rw [hF σ]
  have r := hf p L σ h
  show RCr nx e c0 p L σ (if (f σ).1 = 0 then ((0 : Int32), (f σ).2) else gLF c0 f op code 200 (0 : Int32) (f σ).2) (if (g p).1 = true then _ else _)
  by_cases hr : (g p).1 = true
  · obtain ⟨u1, u2, u3, u4⟩ := r.1 hr
    have k := loopC hx hc hf ho h0 hv 200 101 (g p).2.1 _ _ (0 : Int32) 0 rfl (Nat.zero_le _) (by omega) (by have := hx.le; omega) u2
    rw [if_neg (by rw [u1]; decide), if_pos hr]
    refine ⟨fun h9 => ?_, fun h9 => k.2.1 h9, FXc_tr r.2.2 k.2.2⟩
    obtain ⟨k1, k2, k3⟩ := k.1 h9
    refine ⟨k1, ?_, ?_, ?_⟩
    · rw [List.append_assoc] at k2; exact k2
    · show p + ((g p).2.2 ++ (pch nx c tk g 101 (g p).2.1).2.2).length ≤ (pch nx c tk g 101 (g p).2.1).2.1
      rw [List.length_append]; omega
    · show p + 1 ≤ (pch nx c tk g 101 (g p).2.1).2.1
      omega
  · have hr' : (g p).1 = false := Bool.eq_false_iff.mpr hr
    obtain ⟨u1, u2⟩ := r.2.1 hr'
    rw [if_pos u1, if_neg hr]
    exact ⟨fun h9 => (by cases h9), fun _ => ⟨rfl, u2⟩, r.2.2⟩
noncomputable def gPart (c0 : Nat) (fp fe : Sg → Int32 × Sg) (σ : Sg) : Int32 × Sg := fb (F_X2_takes c0 (33 : Int32) σ) (fun r3 σ2 => (if r3 = 0 then fb (F_X2_takes c0 (40 : Int32) σ2) (fun r5 σ4 => (if r5 = 0 then fb (F_X2_readsTest c0 σ4) (fun r8 σ7 => (r8, σ7)) else fb (fe σ4) (fun r10 σ9 => (if r10 = 0 then ((0 : Int32), σ9) else fb (F_X2_takes c0 (41 : Int32) σ9) (fun r13 σ12 => (if r13 = 0 then ((0 : Int32), σ12) else ((1 : Int32), σ12))))))) else fb (fp σ2) (fun r6 σ5 => (if r6 = 0 then ((0 : Int32), σ5) else fl (F_X2_writes c0 (-1 : Int32) σ5) (fun σ8 => ((1 : Int32), σ8))))))
theorem partC {nx e c0 k} {fp fe F : Sg → Int32 × Sg} (hx : NXo nx e) (hc : 69 ≤ c0) (hp : SpC nx e c0 fp (ppart nx (ptest nx) k)) (he : SpC nx e c0 fe (peither nx (ppart nx (ptest nx) k))) (hF : ∀ σ, F σ = gPart c0 fp fe σ) : SpC nx e c0 F (ppart nx (ptest nx) (k + 1)) := by
  intro p L σ h
  rw [hF σ]
  unfold gPart
  show RCr nx e c0 p L σ _ (if nx p = 33 then (if (ppart nx (ptest nx) k (p + 1)).1 = true then (true, (ppart nx (ptest nx) k (p + 1)).2.1, (ppart nx (ptest nx) k (p + 1)).2.2 ++ [.N]) else (false, (ppart nx (ptest nx) k (p + 1)).2.1, []))
      else if nx p = 40 then (if (peither nx (ppart nx (ptest nx) k) (p + 1)).1 = true then (if nx (peither nx (ppart nx (ptest nx) k) (p + 1)).2.1 = 41 then (true, (peither nx (ppart nx (ptest nx) k) (p + 1)).2.1 + 1, (peither nx (ppart nx (ptest nx) k) (p + 1)).2.2) else (false, (peither nx (ppart nx (ptest nx) k) (p + 1)).2.1, [])) else (false, (peither nx (ppart nx (ptest nx) k) (p + 1)).2.1, []))
      else ptest nx p)
  by_cases h33 : nx p = 33
  · obtain ⟨t1, t2, t3⟩ := takesC_t hx hc h (op := 33) rfl (by decide +kernel) h33
    rw [t1, fb_e, if_neg (show ¬ (1 : Int32) = 0 by decide +kernel), if_pos h33]
    have r := hp (p + 1) L _ t2
    generalize ppart nx (ptest nx) k (p + 1) = R at r ⊢
    obtain ⟨y, hy⟩ : ∃ y, y = fp (si σ c0 11 ((gi σ c0 11) + (1 : Int32))) := ⟨_, rfl⟩
    rw [← hy] at r ⊢
    obtain ⟨y1, y2⟩ := y
    rw [fb_e]
    by_cases hr : R.1 = true
    · obtain ⟨u1, u2, u3, u4⟩ := r.1 hr
      replace u1 : y1 = 1 := u1
      have hl : (L ++ R.2.2).length < R.2.1 := by rw [List.length_append]; have := h.ll; omega
      obtain ⟨w1, w2⟩ := writesC hx hc u2 hl (v := -1) (t := .N) rfl
      rw [if_neg (by rw [u1]; decide), if_pos hr, fl_e]
      refine ⟨fun _ => ⟨rfl, ?_, ?_, ?_⟩, fun h9 => (by cases h9), FXc_tr t3 (FXc_tr r.2.2 w2)⟩
      · rw [List.append_assoc] at w1; exact w1
      · show p + (R.2.2 ++ [Tok.N]).length ≤ R.2.1
        rw [List.length_append]; show p + (R.2.2.length + 1) ≤ _; omega
      · show p + 1 ≤ R.2.1; omega
    · have hr' : R.1 = false := Bool.eq_false_iff.mpr hr
      obtain ⟨u1, u2⟩ := r.2.1 hr'
      replace u1 : y1 = 0 := u1
      rw [if_pos u1, if_neg hr]
      exact ⟨fun h9 => (by cases h9), fun _ => ⟨rfl, u2⟩, FXc_tr t3 r.2.2⟩
  · rw [takesC_f hx h (op := 33) rfl h33, fb_e, if_pos rfl, if_neg h33]
    by_cases h40 : nx p = 40
    · obtain ⟨t1, t2, t3⟩ := takesC_t hx hc h (op := 40) rfl (by decide +kernel) h40
      rw [t1, fb_e, if_neg (show ¬ (1 : Int32) = 0 by decide +kernel), if_pos h40]
      have r := he (p + 1) L _ t2
      generalize peither nx (ppart nx (ptest nx) k) (p + 1) = R at r ⊢
      obtain ⟨y, hy⟩ : ∃ y, y = fe (si σ c0 11 ((gi σ c0 11) + (1 : Int32))) := ⟨_, rfl⟩
      rw [← hy] at r ⊢
      obtain ⟨y1, y2⟩ := y
      rw [fb_e]
      by_cases hr : R.1 = true
      · obtain ⟨u1, u2, u3, u4⟩ := r.1 hr
        replace u1 : y1 = 1 := u1
        rw [if_neg (by rw [u1]; decide), if_pos hr]
        by_cases h41 : nx R.2.1 = 41
        · obtain ⟨v1, v2, v3⟩ := takesC_t hx hc u2 (op := 41) rfl (by decide +kernel) h41
          replace v1 : F_X2_takes c0 41 y2 = _ := v1
          rw [v1, fb_e, if_neg (show ¬ (1 : Int32) = 0 by decide +kernel), if_pos h41]
          refine ⟨fun _ => ⟨rfl, v2, ?_, ?_⟩, fun h9 => (by cases h9), FXc_tr t3 (FXc_tr r.2.2 v3)⟩
          · show p + R.2.2.length ≤ R.2.1 + 1; omega
          · show p + 1 ≤ R.2.1 + 1; omega
        · have v1 : F_X2_takes c0 41 y2 = _ := takesC_f hx u2 (op := 41) rfl h41
          rw [v1, fb_e, if_pos rfl, if_neg h41]
          exact ⟨fun h9 => (by cases h9), fun _ => ⟨rfl, u2.at_⟩, FXc_tr t3 r.2.2⟩
      · have hr' : R.1 = false := Bool.eq_false_iff.mpr hr
        obtain ⟨u1, u2⟩ := r.2.1 hr'
        replace u1 : y1 = 0 := u1
        rw [if_pos u1, if_neg hr]
        exact ⟨fun h9 => (by cases h9), fun _ => ⟨rfl, u2⟩, FXc_tr t3 r.2.2⟩
    · rw [takesC_f hx h (op := 40) rfl h40, fb_e, if_pos rfl, if_neg h40]
      exact testC hx hc p L σ h

theorem part_r4C {nx e c0} (hx : NXo nx e) (hc : 69 ≤ c0) : SpC nx e c0 (F_X2_readsPart_r4 c0 (4 : Int32)) (ppart nx (ptest nx) 0) := by
  intro p L σ h
  have e1 : F_X2_readsPart_r4 c0 (4 : Int32) σ = F_X2_readsTest c0 σ := by
    unfold F_X2_readsPart_r4
    rw [if_pos (by decide +kernel)]
    show LB_X2_readsPart_r4_33 c0 (LF_X2_readsPart_r4 c0 8) (4 : Int32) σ = _
    unfold LB_X2_readsPart_r4_33
    rw [if_pos (by decide +kernel)]
    rfl
  rw [e1]
  exact testC hx hc p L σ h
theorem both_r4L {c0 : Nat} : ∀ n x2 σ, LF_X2_readsBoth_r4 c0 n (4 : Int32) x2 σ = gLF c0 (F_X2_readsPart_r4 c0 (4 : Int32)) 38 (-2) n x2 σ := by
  intro n
  induction n with
  | zero => intro x2 σ; rfl
  | succ n ih =>
    intro x2 σ
    show LB_X2_readsBoth_r4_12 c0 (LF_X2_readsBoth_r4 c0 n) (4 : Int32) x2 σ = _
    unfold LB_X2_readsBoth_r4_12
    simp only [ih]
    rfl
theorem both_r4C {nx e c0} (hx : NXo nx e) (hc : 69 ≤ c0) : SpC nx e c0 (F_X2_readsBoth_r4 c0 (4 : Int32)) (pboth nx (ppart nx (ptest nx) 0)) :=
  chainC hx hc (part_r4C hx hc) (op := 38) rfl (by decide +kernel) (code := -2) (tk := .A) rfl (fun σ => by
    unfold F_X2_readsBoth_r4
    simp only [both_r4L])
theorem either_r4L {c0 : Nat} : ∀ n x2 σ, LF_X2_readsEither_r4 c0 n (4 : Int32) x2 σ = gLF c0 (F_X2_readsBoth_r4 c0 (4 : Int32)) 124 (-3) n x2 σ := by
  intro n
  induction n with
  | zero => intro x2 σ; rfl
  | succ n ih =>
    intro x2 σ
    show LB_X2_readsEither_r4_12 c0 (LF_X2_readsEither_r4 c0 n) (4 : Int32) x2 σ = _
    unfold LB_X2_readsEither_r4_12
    simp only [ih]
    rfl
theorem either_r4C {nx e c0} (hx : NXo nx e) (hc : 69 ≤ c0) : SpC nx e c0 (F_X2_readsEither_r4 c0 (4 : Int32)) (peither nx (ppart nx (ptest nx) 0)) :=
  chainC hx hc (both_r4C hx hc) (op := 124) rfl (by decide +kernel) (code := -3) (tk := .O) rfl (fun σ => by
    unfold F_X2_readsEither_r4
    simp only [either_r4L])
theorem part_r3C {nx e c0} (hx : NXo nx e) (hc : 69 ≤ c0) : SpC nx e c0 (F_X2_readsPart_r3 c0 (3 : Int32)) (ppart nx (ptest nx) 1) :=
  partC hx hc (part_r4C hx hc) (either_r4C hx hc) (fun σ => by
    unfold F_X2_readsPart_r3
    rw [if_neg (by decide +kernel), show (3 : Int32) + 1 = 4 from by decide +kernel]
    unfold gPart
    congr 1)
theorem both_r3L {c0 : Nat} : ∀ n x2 σ, LF_X2_readsBoth_r3 c0 n (3 : Int32) x2 σ = gLF c0 (F_X2_readsPart_r3 c0 (3 : Int32)) 38 (-2) n x2 σ := by
  intro n
  induction n with
  | zero => intro x2 σ; rfl
  | succ n ih =>
    intro x2 σ
    show LB_X2_readsBoth_r3_12 c0 (LF_X2_readsBoth_r3 c0 n) (3 : Int32) x2 σ = _
    unfold LB_X2_readsBoth_r3_12
    simp only [ih]
    rfl
theorem both_r3C {nx e c0} (hx : NXo nx e) (hc : 69 ≤ c0) : SpC nx e c0 (F_X2_readsBoth_r3 c0 (3 : Int32)) (pboth nx (ppart nx (ptest nx) 1)) :=
  chainC hx hc (part_r3C hx hc) (op := 38) rfl (by decide +kernel) (code := -2) (tk := .A) rfl (fun σ => by
    unfold F_X2_readsBoth_r3
    simp only [both_r3L])
theorem either_r3L {c0 : Nat} : ∀ n x2 σ, LF_X2_readsEither_r3 c0 n (3 : Int32) x2 σ = gLF c0 (F_X2_readsBoth_r3 c0 (3 : Int32)) 124 (-3) n x2 σ := by
  intro n
  induction n with
  | zero => intro x2 σ; rfl
  | succ n ih =>
    intro x2 σ
    show LB_X2_readsEither_r3_12 c0 (LF_X2_readsEither_r3 c0 n) (3 : Int32) x2 σ = _
    unfold LB_X2_readsEither_r3_12
    simp only [ih]
    rfl
theorem either_r3C {nx e c0} (hx : NXo nx e) (hc : 69 ≤ c0) : SpC nx e c0 (F_X2_readsEither_r3 c0 (3 : Int32)) (peither nx (ppart nx (ptest nx) 1)) :=
  chainC hx hc (both_r3C hx hc) (op := 124) rfl (by decide +kernel) (code := -3) (tk := .O) rfl (fun σ => by
    unfold F_X2_readsEither_r3
    simp only [either_r3L])
theorem part_r2C {nx e c0} (hx : NXo nx e) (hc : 69 ≤ c0) : SpC nx e c0 (F_X2_readsPart_r2 c0 (2 : Int32)) (ppart nx (ptest nx) 2) :=
  partC hx hc (part_r3C hx hc) (either_r3C hx hc) (fun σ => by
    unfold F_X2_readsPart_r2
    rw [if_neg (by decide +kernel), show (2 : Int32) + 1 = 3 from by decide +kernel]
    unfold gPart
    congr 1)
theorem both_r2L {c0 : Nat} : ∀ n x2 σ, LF_X2_readsBoth_r2 c0 n (2 : Int32) x2 σ = gLF c0 (F_X2_readsPart_r2 c0 (2 : Int32)) 38 (-2) n x2 σ := by
  intro n
  induction n with
  | zero => intro x2 σ; rfl
  | succ n ih =>
    intro x2 σ
    show LB_X2_readsBoth_r2_12 c0 (LF_X2_readsBoth_r2 c0 n) (2 : Int32) x2 σ = _
    unfold LB_X2_readsBoth_r2_12
    simp only [ih]
    rfl
theorem both_r2C {nx e c0} (hx : NXo nx e) (hc : 69 ≤ c0) : SpC nx e c0 (F_X2_readsBoth_r2 c0 (2 : Int32)) (pboth nx (ppart nx (ptest nx) 2)) :=
  chainC hx hc (part_r2C hx hc) (op := 38) rfl (by decide +kernel) (code := -2) (tk := .A) rfl (fun σ => by
    unfold F_X2_readsBoth_r2
    simp only [both_r2L])
theorem either_r2L {c0 : Nat} : ∀ n x2 σ, LF_X2_readsEither_r2 c0 n (2 : Int32) x2 σ = gLF c0 (F_X2_readsBoth_r2 c0 (2 : Int32)) 124 (-3) n x2 σ := by
  intro n
  induction n with
  | zero => intro x2 σ; rfl
  | succ n ih =>
    intro x2 σ
    show LB_X2_readsEither_r2_12 c0 (LF_X2_readsEither_r2 c0 n) (2 : Int32) x2 σ = _
    unfold LB_X2_readsEither_r2_12
    simp only [ih]
    rfl
theorem either_r2C {nx e c0} (hx : NXo nx e) (hc : 69 ≤ c0) : SpC nx e c0 (F_X2_readsEither_r2 c0 (2 : Int32)) (peither nx (ppart nx (ptest nx) 2)) :=
  chainC hx hc (both_r2C hx hc) (op := 124) rfl (by decide +kernel) (code := -3) (tk := .O) rfl (fun σ => by
    unfold F_X2_readsEither_r2
    simp only [either_r2L])
theorem part_r1C {nx e c0} (hx : NXo nx e) (hc : 69 ≤ c0) : SpC nx e c0 (F_X2_readsPart_r1 c0 (1 : Int32)) (ppart nx (ptest nx) 3) :=
  partC hx hc (part_r2C hx hc) (either_r2C hx hc) (fun σ => by
    unfold F_X2_readsPart_r1
    rw [if_neg (by decide +kernel), show (1 : Int32) + 1 = 2 from by decide +kernel]
    unfold gPart
    congr 1)
theorem both_r1L {c0 : Nat} : ∀ n x2 σ, LF_X2_readsBoth_r1 c0 n (1 : Int32) x2 σ = gLF c0 (F_X2_readsPart_r1 c0 (1 : Int32)) 38 (-2) n x2 σ := by
  intro n
  induction n with
  | zero => intro x2 σ; rfl
  | succ n ih =>
    intro x2 σ
    show LB_X2_readsBoth_r1_12 c0 (LF_X2_readsBoth_r1 c0 n) (1 : Int32) x2 σ = _
    unfold LB_X2_readsBoth_r1_12
    simp only [ih]
    rfl
theorem both_r1C {nx e c0} (hx : NXo nx e) (hc : 69 ≤ c0) : SpC nx e c0 (F_X2_readsBoth_r1 c0 (1 : Int32)) (pboth nx (ppart nx (ptest nx) 3)) :=
  chainC hx hc (part_r1C hx hc) (op := 38) rfl (by decide +kernel) (code := -2) (tk := .A) rfl (fun σ => by
    unfold F_X2_readsBoth_r1
    simp only [both_r1L])
theorem either_r1L {c0 : Nat} : ∀ n x2 σ, LF_X2_readsEither_r1 c0 n (1 : Int32) x2 σ = gLF c0 (F_X2_readsBoth_r1 c0 (1 : Int32)) 124 (-3) n x2 σ := by
  intro n
  induction n with
  | zero => intro x2 σ; rfl
  | succ n ih =>
    intro x2 σ
    show LB_X2_readsEither_r1_12 c0 (LF_X2_readsEither_r1 c0 n) (1 : Int32) x2 σ = _
    unfold LB_X2_readsEither_r1_12
    simp only [ih]
    rfl
theorem either_r1C {nx e c0} (hx : NXo nx e) (hc : 69 ≤ c0) : SpC nx e c0 (F_X2_readsEither_r1 c0 (1 : Int32)) (peither nx (ppart nx (ptest nx) 3)) :=
  chainC hx hc (both_r1C hx hc) (op := 124) rfl (by decide +kernel) (code := -3) (tk := .O) rfl (fun σ => by
    unfold F_X2_readsEither_r1
    simp only [either_r1L])
theorem part_r0C {nx e c0} (hx : NXo nx e) (hc : 69 ≤ c0) : SpC nx e c0 (F_X2_readsPart_r0 c0 (0 : Int32)) (ppart nx (ptest nx) 4) :=
  partC hx hc (part_r1C hx hc) (either_r1C hx hc) (fun σ => by
    unfold F_X2_readsPart_r0
    rw [if_neg (by decide +kernel), show (0 : Int32) + 1 = 1 from by decide +kernel]
    unfold gPart
    congr 1)
theorem both_r0L {c0 : Nat} : ∀ n x2 σ, LF_X2_readsBoth_r0 c0 n (0 : Int32) x2 σ = gLF c0 (F_X2_readsPart_r0 c0 (0 : Int32)) 38 (-2) n x2 σ := by
  intro n
  induction n with
  | zero => intro x2 σ; rfl
  | succ n ih =>
    intro x2 σ
    show LB_X2_readsBoth_r0_12 c0 (LF_X2_readsBoth_r0 c0 n) (0 : Int32) x2 σ = _
    unfold LB_X2_readsBoth_r0_12
    simp only [ih]
    rfl
theorem both_r0C {nx e c0} (hx : NXo nx e) (hc : 69 ≤ c0) : SpC nx e c0 (F_X2_readsBoth_r0 c0 (0 : Int32)) (pboth nx (ppart nx (ptest nx) 4)) :=
  chainC hx hc (part_r0C hx hc) (op := 38) rfl (by decide +kernel) (code := -2) (tk := .A) rfl (fun σ => by
    unfold F_X2_readsBoth_r0
    simp only [both_r0L])
theorem either_r0L {c0 : Nat} : ∀ n x2 σ, LF_X2_readsEither_r0 c0 n (0 : Int32) x2 σ = gLF c0 (F_X2_readsBoth_r0 c0 (0 : Int32)) 124 (-3) n x2 σ := by
  intro n
  induction n with
  | zero => intro x2 σ; rfl
  | succ n ih =>
    intro x2 σ
    show LB_X2_readsEither_r0_12 c0 (LF_X2_readsEither_r0 c0 n) (0 : Int32) x2 σ = _
    unfold LB_X2_readsEither_r0_12
    simp only [ih]
    rfl
theorem either_r0C {nx e c0} (hx : NXo nx e) (hc : 69 ≤ c0) : SpC nx e c0 (F_X2_readsEither_r0 c0 (0 : Int32)) (peither nx (ppart nx (ptest nx) 4)) :=
  chainC hx hc (both_r0C hx hc) (op := 124) rfl (by decide +kernel) (code := -3) (tk := .O) rfl (fun σ => by
    unfold F_X2_readsEither_r0
    simp only [either_r0L])
/-! the model's reading of E is the reading by a pile -/
noncomputable def encM : Tok → Int32
  | Sum.inl (f, s, n) => Int32.ofNat (f * 1000 + s * 100 + n)
  | Sum.inr 0 => -33
  | Sum.inr 1 => -38
  | Sum.inr _ => -124
noncomputable def WSm (σ : Sg) : Nat → List Int → Prop
  | 0, [] => True
  | n + 1, b :: S => (gi σ 123 n).toInt = b ∧ WSm σ n S
  | _, _ => False
/-- the model reads the text nx of e signs, stands before sign p, has written L from place b on, S lies on the pile -/
noncomputable abbrev RdM (nx : Nat → Int) (e b p : Nat) (L : List Tok) (S : List Int) (σ : Sg) : Prop :=
  ((gi σ 74 13).toInt = (e : Int)) ∧ (∀ q, q < e → (gi σ 116 q).toInt = nx q) ∧ ((gi σ 74 14).toInt = (p : Int)) ∧ ((gi σ 74 24).toInt = ((b + L.length : Nat) : Int)) ∧ (∀ j t, L[j]? = some t → gi σ 122 (b + j) = encM t) ∧ ((gi σ 74 25).toInt = (S.length : Int)) ∧ (WSm σ S.length S) ∧ ((gi σ 74 26).toInt = (opn S : Int)) ∧ (p ≤ e) ∧ (b ≤ 1000) ∧ (L.length + S.length ≤ 300)
theorem RdM.en {nx : Nat → Int} {e b p : Nat} {L : List Tok} {S : List Int} {σ : Sg} (h : RdM nx e b p L S σ) : (gi σ 74 13).toInt = (e : Int) := h.1
theorem RdM.tx {nx : Nat → Int} {e b p : Nat} {L : List Tok} {S : List Int} {σ : Sg} (h : RdM nx e b p L S σ) : ∀ q, q < e → (gi σ 116 q).toInt = nx q := h.2.1
theorem RdM.at_ {nx : Nat → Int} {e b p : Nat} {L : List Tok} {S : List Int} {σ : Sg} (h : RdM nx e b p L S σ) : (gi σ 74 14).toInt = (p : Int) := h.2.2.1
theorem RdM.cn {nx : Nat → Int} {e b p : Nat} {L : List Tok} {S : List Int} {σ : Sg} (h : RdM nx e b p L S σ) : (gi σ 74 24).toInt = ((b + L.length : Nat) : Int) := h.2.2.2.1
theorem RdM.cd {nx : Nat → Int} {e b p : Nat} {L : List Tok} {S : List Int} {σ : Sg} (h : RdM nx e b p L S σ) : ∀ j t, L[j]? = some t → gi σ 122 (b + j) = encM t := h.2.2.2.2.1
theorem RdM.wn {nx : Nat → Int} {e b p : Nat} {L : List Tok} {S : List Int} {σ : Sg} (h : RdM nx e b p L S σ) : (gi σ 74 25).toInt = (S.length : Int) := h.2.2.2.2.2.1
theorem RdM.ws {nx : Nat → Int} {e b p : Nat} {L : List Tok} {S : List Int} {σ : Sg} (h : RdM nx e b p L S σ) : WSm σ S.length S := h.2.2.2.2.2.2.1
theorem RdM.op {nx : Nat → Int} {e b p : Nat} {L : List Tok} {S : List Int} {σ : Sg} (h : RdM nx e b p L S σ) : (gi σ 74 26).toInt = (opn S : Int) := h.2.2.2.2.2.2.2.1
theorem RdM.le {nx : Nat → Int} {e b p : Nat} {L : List Tok} {S : List Int} {σ : Sg} (h : RdM nx e b p L S σ) : p ≤ e := h.2.2.2.2.2.2.2.2.1
theorem RdM.bb {nx : Nat → Int} {e b p : Nat} {L : List Tok} {S : List Int} {σ : Sg} (h : RdM nx e b p L S σ) : b ≤ 1000 := h.2.2.2.2.2.2.2.2.2.1
theorem RdM.ll {nx : Nat → Int} {e b p : Nat} {L : List Tok} {S : List Int} {σ : Sg} (h : RdM nx e b p L S σ) : L.length + S.length ≤ 300 := h.2.2.2.2.2.2.2.2.2.2
noncomputable def FXm (b : Nat) (σ σ' : Sg) : Prop := FX (fun id => id = 123) (fun id k => (id = 74 ∧ (k = 14 ∨ k = 15 ∨ k = 24 ∨ k = 25 ∨ k = 26)) ∨ (id = 122 ∧ b ≤ k)) σ σ'
theorem FXm_rf {b : Nat} {σ : Sg} : FXm b σ σ := FX_rf
theorem FXm_tr {b : Nat} {σ σ1 σ2 : Sg} (f : FXm b σ σ1) (g : FXm b σ1 σ2) : FXm b σ σ2 := FX_tr f g (fun _ h => h) (fun _ _ h => Or.inr h)
theorem WSm_si {σ : Sg} {a k : Nat} {v : Int32} (h : a ≠ 123) : ∀ n S, WSm σ n S → WSm (si σ a k v) n S := by
  intro n
  induction n with
  | zero => intro S; cases S <;> exact id
  | succ n ih =>
    intro S
    cases S with
    | nil => exact id
    | cons b S => exact fun w => ⟨by rw [gi_si_ne (Or.inl (Ne.symm h))]; exact w.1, ih S w.2⟩
theorem WSm_up {σ : Sg} {k : Nat} {v : Int32} : ∀ n S, n ≤ k → WSm σ n S → WSm (si σ 123 k v) n S := by
  intro n
  induction n with
  | zero => intro S _; cases S <;> exact id
  | succ n ih =>
    intro S hk
    cases S with
    | nil => exact id
    | cons b S => exact fun w => ⟨by rw [gi_si_ne (Or.inr (by omega))]; exact w.1, ih S (by omega) w.2⟩
theorem nextM {nx e b p L S σ} (hx : NXo nx e) (h : RdM nx e b p L S σ) : ∃ r : Int32, F_X12_next σ = (r, σ) ∧ r.toInt = nx p := by
  unfold F_X12_next
  have a := h.at_
  have b := h.en
  by_cases q : (gi σ 74 13) ≤ (gi σ 74 14)
  · have q' := Int32.le_iff_toInt_le.mp q
    rw [if_pos q]
    exact ⟨_, rfl, (hx.hn p (by omega)).symm⟩
  · have q' : ¬ (gi σ 74 13).toInt ≤ (gi σ 74 14).toInt := fun h9 => q (Int32.le_iff_toInt_le.mpr h9)
    rw [if_neg q]
    have ec := cl_eq (x := gi σ 74 14) (by omega)
    exact ⟨_, rfl, by rw [show (gi σ 74 14).toNatClampNeg = p from by omega]; exact h.tx p (by omega)⟩
theorem advM {nx e b p L S σ} (hx : NXo nx e) (h : RdM nx e b p L S σ) (hp : p < e) : RdM nx e b (p + 1) L S (si σ 74 14 ((gi σ 74 14) + (1 : Int32))) ∧ FXm b σ (si σ 74 14 ((gi σ 74 14) + (1 : Int32))) := by
  have a := h.at_
  have l := hx.le
  have t1 : ((gi σ 74 14) + (1 : Int32)).toInt = (gi σ 74 14).toInt + 1 := i_add (y := (1 : Int32)) (by show (_ : Int) ≤ (gi σ 74 14).toInt + 1; omega) (by show (gi σ 74 14).toInt + 1 ≤ (_ : Int); omega)
  refine ⟨⟨?_, ?_, ?_, ?_, ?_, ?_, WSm_si (by decide +kernel) _ _ h.ws, ?_, hp, h.bb, h.ll⟩, FX_si FX_rf (Or.inr (Or.inl ⟨rfl, Or.inl rfl⟩))⟩
  · rw [gi_si_ne (Or.inr (by decide +kernel))]; exact h.en
  · intro q hq; rw [gi_si_ne (Or.inl (by decide +kernel))]; exact h.tx q hq
  · rw [gi_si_eq, t1]; omega
  · rw [gi_si_ne (Or.inr (by decide +kernel))]; exact h.cn
  · intro j t ht; rw [gi_si_ne (Or.inl (by decide +kernel))]; exact h.cd j t ht
  · rw [gi_si_ne (Or.inr (by decide +kernel))]; exact h.wn
  · rw [gi_si_ne (Or.inr (by decide +kernel))]; exact h.op
theorem emitsM {nx e b p L S σ} {v : Int32} {t : Tok} (hx : NXo nx e) (h : RdM nx e b p L S σ) (hl : L.length + S.length < 300) (hv : v = encM t) : RdM nx e b p (L ++ [t]) S (F_X12_emits v σ) ∧ FXm b σ (F_X12_emits v σ) := by
  have a := h.cn
  have l := hx.le
  have l2 := h.le
  have l3 := h.bb
  have ec := cl_eq (x := gi σ 74 24) (by omega)
  have ek : (gi σ 74 24).toNatClampNeg = b + L.length := by omega
  have t1 : ((gi σ 74 24) + (1 : Int32)).toInt = (gi σ 74 24).toInt + 1 := i_add (y := (1 : Int32)) (by show (_ : Int) ≤ (gi σ 74 24).toInt + 1; omega) (by show (gi σ 74 24).toInt + 1 ≤ (_ : Int); omega)
  have e1 : F_X12_emits v σ = si (si σ 122 (b + L.length) v) 74 24 ((gi σ 74 24) + (1 : Int32)) := by
    unfold F_X12_emits
    rw [ek, fl_e, fl_e, gi_si_ne (Or.inl (by decide +kernel))]
  rw [e1]
  refine ⟨⟨?_, ?_, ?_, ?_, ?_, ?_, WSm_si (by decide +kernel) _ _ (WSm_si (by decide +kernel) _ _ h.ws), ?_, h.le, h.bb, ?_⟩, FX_si (FX_si FX_rf (Or.inr (Or.inr ⟨rfl, Nat.le_add_right _ _⟩))) (Or.inr (Or.inl ⟨rfl, by decide +kernel⟩))⟩
  · rw [gi_si_ne (Or.inr (by decide +kernel)), gi_si_ne (Or.inl (by decide +kernel))]; exact h.en
  · intro q hq; rw [gi_si_ne (Or.inl (by decide +kernel)), gi_si_ne (Or.inl (by decide +kernel))]; exact h.tx q hq
  · rw [gi_si_ne (Or.inr (by decide +kernel)), gi_si_ne (Or.inl (by decide +kernel))]; exact h.at_
  · rw [gi_si_eq, t1, List.length_append]; show _ = ((b + (L.length + 1) : Nat) : Int); omega
  · intro j t' ht
    rw [gi_si_ne (Or.inl (by decide +kernel)), gi_si]
    by_cases hj : j = L.length
    · rw [if_pos ⟨rfl, by rw [hj]⟩, hv]
      rw [hj, List.getElem?_append_right (Nat.le_refl _), Nat.sub_self] at ht
      cases ht; rfl
    · rw [if_neg (fun h9 => hj (by have := h9.2; omega))]
      have hj2 : j < L.length := by
        have := (List.getElem?_eq_some_iff.mp ht).1
        rw [List.length_append] at this
        have : j < L.length + 1 := this
        omega
      rw [List.getElem?_append_left hj2] at ht
      exact h.cd j t' ht
  · rw [gi_si_ne (Or.inr (by decide +kernel)), gi_si_ne (Or.inl (by decide +kernel))]; exact h.wn
  · rw [gi_si_ne (Or.inr (by decide +kernel)), gi_si_ne (Or.inl (by decide +kernel))]; exact h.op
  · rw [List.length_append]; show L.length + 1 + S.length ≤ 300; omega
theorem i_pred {x : Int32} (h : 1 ≤ x.toInt) : (x - (1 : Int32)).toInt = x.toInt - 1 := by
  have := Int32.toInt_lt x
  exact i_sub (y := (1 : Int32)) (by show (_ : Int) ≤ x.toInt - 1; omega) (by show x.toInt - 1 ≤ (_ : Int); omega)
/-- the pile's top goes; it is no bracket and no not -/
theorem popM0 {nx e b p L S σ} {c : Int} (h : RdM nx e b p L (c :: S) σ) (hc : ¬ (c = 33 ∨ c = 40)) : RdM nx e b p L S (si σ 74 25 ((gi σ 74 25) - (1 : Int32))) ∧ FXm b σ (si σ 74 25 ((gi σ 74 25) - (1 : Int32))) := by
  have w := h.wn
  have l : (c :: S).length = S.length + 1 := rfl
  have t1 := i_pred (x := gi σ 74 25) (by omega)
  have o : opn (c :: S) = opn S := by rw [opn_c, if_neg hc]
  refine ⟨⟨?_, ?_, ?_, ?_, ?_, ?_, WSm_si (by decide +kernel) _ _ h.ws.2, ?_, h.le, h.bb, ?_⟩, FX_si FX_rf (Or.inr (Or.inl ⟨rfl, by decide +kernel⟩))⟩
  · rw [gi_si_ne (Or.inr (by decide +kernel))]; exact h.en
  · intro q hq; rw [gi_si_ne (Or.inl (by decide +kernel))]; exact h.tx q hq
  · rw [gi_si_ne (Or.inr (by decide +kernel))]; exact h.at_
  · rw [gi_si_ne (Or.inr (by decide +kernel))]; exact h.cn
  · intro j t ht; rw [gi_si_ne (Or.inl (by decide +kernel))]; exact h.cd j t ht
  · rw [gi_si_eq, t1]; omega
  · rw [gi_si_ne (Or.inr (by decide +kernel)), ← o]; exact h.op
  · have := h.ll; omega
/-- the pile's top goes; it is a bracket or a not -/
theorem popM1 {nx e b p L S σ} {c : Int} (h : RdM nx e b p L (c :: S) σ) (hc : c = 33 ∨ c = 40) :
    RdM nx e b p L S (si (si σ 74 25 ((gi σ 74 25) - (1 : Int32))) 74 26 ((gi (si σ 74 25 ((gi σ 74 25) - (1 : Int32))) 74 26) - (1 : Int32))) ∧ FXm b σ (si (si σ 74 25 ((gi σ 74 25) - (1 : Int32))) 74 26 ((gi (si σ 74 25 ((gi σ 74 25) - (1 : Int32))) 74 26) - (1 : Int32))) := by
  have w := h.wn
  have l : (c :: S).length = S.length + 1 := rfl
  have o : opn (c :: S) = opn S + 1 := by rw [opn_c, if_pos hc]
  have op := h.op
  have t1 := i_pred (x := gi σ 74 25) (by omega)
  have t2 := i_pred (x := gi σ 74 26) (by omega)
  rw [gi_si_ne (show (74 : Nat) ≠ 74 ∨ 26 ≠ 25 from Or.inr (by decide +kernel))]
  refine ⟨⟨?_, ?_, ?_, ?_, ?_, ?_, WSm_si (by decide +kernel) _ _ (WSm_si (by decide +kernel) _ _ h.ws.2), ?_, h.le, h.bb, ?_⟩, FX_si (FX_si FX_rf (Or.inr (Or.inl ⟨rfl, by decide +kernel⟩))) (Or.inr (Or.inl ⟨rfl, by decide +kernel⟩))⟩
  · rw [gi_si_ne (Or.inr (by decide +kernel)), gi_si_ne (Or.inr (by decide +kernel))]; exact h.en
  · intro q hq; rw [gi_si_ne (Or.inl (by decide +kernel)), gi_si_ne (Or.inl (by decide +kernel))]; exact h.tx q hq
  · rw [gi_si_ne (Or.inr (by decide +kernel)), gi_si_ne (Or.inr (by decide +kernel))]; exact h.at_
  · rw [gi_si_ne (Or.inr (by decide +kernel)), gi_si_ne (Or.inr (by decide +kernel))]; exact h.cn
  · intro j t ht; rw [gi_si_ne (Or.inl (by decide +kernel)), gi_si_ne (Or.inl (by decide +kernel))]; exact h.cd j t ht
  · rw [gi_si_ne (Or.inr (by decide +kernel)), gi_si_eq, t1]; omega
  · rw [gi_si_eq, t2]; omega
  · have := h.ll; omega
theorem WSm_top {σ : Sg} {S : List Int} {c : Int} {w : Int32} (h : WSm σ (S.length + 1) (c :: S)) (hw : w.toInt = ((S.length + 1 : Nat) : Int)) : (gi σ 123 (w - (1 : Int32)).toNatClampNeg).toInt = c := by
  have t := i_pred (x := w) (by omega)
  have ec := cl_eq (x := w - (1 : Int32)) (by omega)
  rw [show (w - (1 : Int32)).toNatClampNeg = S.length from by omega]
  exact h.1
theorem wholeM {nx e b p} (hx : NXo nx e) : ∀ S n L σ, RdM nx e b p L S σ → S.length < n → L.length + S.length < 300 → RdM nx e b p (L ++ nots S) (popN S) (LF_X12_whole n σ) ∧ FXm b σ (LF_X12_whole n σ) := by
  intro S
  induction S with
  | nil =>
    intro n L σ h hn hl
    cases n with
    | zero => exact absurd hn (Nat.not_lt_zero _)
    | succ n =>
      have w := h.wn
      have w : (gi σ 74 25).toInt = 0 := w
      have e1 : LF_X12_whole (n + 1) σ = σ := by
        show LB_X12_whole_0 (LF_X12_whole n) σ = σ
        unfold LB_X12_whole_0
        rw [if_pos (Int32.le_iff_toInt_le.mpr (by rw [w]; decide))]
      rw [e1]
      exact ⟨by show RdM nx e b p (L ++ []) [] σ; rw [List.append_nil]; exact h, FXm_rf⟩
  | cons c S ih =>
    intro n L σ h hn hl
    cases n with
    | zero => exact absurd hn (Nat.not_lt_zero _)
    | succ n =>
      have w := h.wn
      have l : (c :: S).length = S.length + 1 := rfl
      have top := WSm_top (w := gi σ 74 25) h.ws (by rw [w, l])
      have n0 : ¬ (gi σ 74 25) ≤ 0 := fun h9 => by
        have := Int32.le_iff_toInt_le.mp h9
        have z : (0 : Int32).toInt = 0 := rfl
        omega
      have z33 : (33 : Int32).toInt = 33 := rfl
      by_cases hc : c = 33
      · have e1 : LF_X12_whole (n + 1) σ = LF_X12_whole n (si (si (F_X12_emits (-33 : Int32) σ) 74 25 ((gi (F_X12_emits (-33 : Int32) σ) 74 25) - (1 : Int32))) 74 26 ((gi (si (F_X12_emits (-33 : Int32) σ) 74 25 ((gi (F_X12_emits (-33 : Int32) σ) 74 25) - (1 : Int32))) 74 26) - (1 : Int32))) := by
          show LB_X12_whole_0 (LF_X12_whole n) σ = _
          unfold LB_X12_whole_0
          rw [if_neg n0, if_pos (Int32.toInt_inj.mp (by rw [top, hc, z33])), fl_e, fl_e, fl_e]
        obtain ⟨a1, a2⟩ := emitsM (v := -33) (t := .N) hx h hl rfl
        obtain ⟨b1, b2⟩ := popM1 a1 (Or.inl hc)
        obtain ⟨c1, c2⟩ := ih n _ _ b1 (by omega) (by rw [List.length_append]; show L.length + 1 + S.length < 300; omega)
        rw [e1, nots_c, popN_c, if_pos hc, if_pos hc]
        refine ⟨?_, FXm_tr a2 (FXm_tr b2 c2)⟩
        rw [List.append_assoc] at c1
        exact c1
      · have e1 : LF_X12_whole (n + 1) σ = σ := by
          show LB_X12_whole_0 (LF_X12_whole n) σ = _
          unfold LB_X12_whole_0
          rw [if_neg n0, if_neg (fun h9 => hc (by rw [← top, h9]; rfl))]
        rw [e1, nots_c, popN_c, if_neg hc, if_neg hc, List.append_nil]
        exact ⟨h, FXm_rf⟩
theorem settleM {nx e b p} (hx : NXo nx e) {x1 : Int32} {s : Int} (hs : x1.toInt = s) : ∀ S n L σ, RdM nx e b p L S σ → 2 * S.length < n → L.length + S.length ≤ 300 → RdM nx e b p (L ++ setO s S) (setS s S) (LF_X12_settle n 0 x1 σ) ∧ FXm b σ (LF_X12_settle n 0 x1 σ) := by
  intro S
  induction S with
  | nil =>
    intro n L σ h hn hl
    cases n with
    | zero => exact absurd hn (Nat.not_lt_zero _)
    | succ n =>
      have w := h.wn
      have w : (gi σ 74 25).toInt = 0 := w
      have e1 : LF_X12_settle (n + 1) 0 x1 σ = σ := by
        show LB_X12_settle_0 (LF_X12_settle n) x1 σ = σ
        unfold LB_X12_settle_0
        rw [if_pos (Int32.le_iff_toInt_le.mpr (by rw [w]; decide))]
      rw [e1]
      exact ⟨by show RdM nx e b p (L ++ []) [] σ; rw [List.append_nil]; exact h, FXm_rf⟩
  | cons c S ih =>
    intro n L σ h hn hl
    have l : (c :: S).length = S.length + 1 := rfl
    obtain ⟨n, rfl⟩ : ∃ m, n = m + 2 := ⟨n - 2, by omega⟩
    have w := h.wn
    have top := WSm_top (w := gi σ 74 25) h.ws (by rw [w, l])
    have n0 : ¬ (gi σ 74 25) ≤ 0 := fun h9 => by
      have := Int32.le_iff_toInt_le.mp h9
      have z : (0 : Int32).toInt = 0 := rfl
      omega
    have z38 : (38 : Int32).toInt = 38 := rfl
    have z124 : (124 : Int32).toInt = 124 := rfl
    by_cases hc : c = 38 ∨ (c = 124 ∧ s ≠ 38)
    · have hc3 : ¬ (c = 33 ∨ c = 40) := by omega
      obtain ⟨σ1, q1⟩ : ∃ σ1, σ1 = si σ 74 25 ((gi σ 74 25) - (1 : Int32)) := ⟨_, rfl⟩
      obtain ⟨b1, b2⟩ := popM0 h hc3
      rw [← q1] at b1 b2
      have e1 : LF_X12_settle (n + 2) 0 x1 σ = LF_X12_settle n 0 x1 (F_X12_emits (-(gi σ1 123 (gi σ1 74 25).toNatClampNeg)) σ1) := by
        show LB_X12_settle_0 (LF_X12_settle (n + 1)) x1 σ = _
        unfold LB_X12_settle_0
        have e2 : LF_X12_settle (n + 1) 1 x1 σ = LF_X12_settle n 0 x1 (F_X12_emits (-(gi σ1 123 (gi σ1 74 25).toNatClampNeg)) σ1) := by
          show LB_X12_settle_45 (LF_X12_settle n) x1 σ = _
          unfold LB_X12_settle_45
          rw [← q1, fl_e, fl_e]
        rw [if_neg n0]
        rcases hc with hc | ⟨hc, hs2⟩
        · rw [if_pos (Int32.toInt_inj.mp (by rw [top, hc, z38]))]; exact e2
        · rw [if_neg (fun h9 => by rw [h9, hc, z38] at top; exact absurd top (by decide +kernel)), if_pos (Int32.toInt_inj.mp (by rw [top, hc, z124])), if_neg (fun h9 => hs2 (by rw [← hs, h9]; rfl))]; exact e2
      have g1 : gi σ1 123 (gi σ1 74 25).toNatClampNeg = gi σ 123 ((gi σ 74 25) - (1 : Int32)).toNatClampNeg := by
        rw [q1, gi_si_eq, gi_si_ne (Or.inl (by decide +kernel))]
      have ev : (-(gi σ1 123 (gi σ1 74 25).toNatClampNeg)) = encM (tokOf c) := by
        rw [g1]
        rcases hc with hc | ⟨hc, -⟩
        · rw [show gi σ 123 ((gi σ 74 25) - (1 : Int32)).toNatClampNeg = 38 from Int32.toInt_inj.mp (by rw [top, hc, z38]), hc]; rfl
        · rw [show gi σ 123 ((gi σ 74 25) - (1 : Int32)).toNatClampNeg = 124 from Int32.toInt_inj.mp (by rw [top, hc, z124]), hc]; rfl
      obtain ⟨a1, a2⟩ := emitsM hx b1 (by omega) ev
      obtain ⟨c1, c2⟩ := ih n _ _ a1 (by omega) (by rw [List.length_append]; show L.length + 1 + S.length ≤ 300; omega)
      rw [e1, setO_c, setS_c, if_pos hc, if_pos hc]
      refine ⟨?_, FXm_tr b2 (FXm_tr a2 c2)⟩
      rw [List.append_assoc] at c1
      exact c1
    · have e1 : LF_X12_settle (n + 2) 0 x1 σ = σ := by
        show LB_X12_settle_0 (LF_X12_settle (n + 1)) x1 σ = _
        unfold LB_X12_settle_0
        rw [if_neg n0, if_neg (fun h9 => hc (Or.inl (by rw [← top, h9]; rfl)))]
        by_cases h124 : c = 124
        · rw [if_pos (Int32.toInt_inj.mp (by rw [top, h124, z124])), if_pos (Int32.toInt_inj.mp (by rw [hs, z38]; omega))]
        · rw [if_neg (fun h9 => h124 (by rw [← top, h9]; rfl))]
      rw [e1, setO_c, setS_c, if_neg hc, if_neg hc, List.append_nil]
      exact ⟨h, FXm_rf⟩
theorem digitM {nx e b p L S σ} (hx : NXo nx e) (h : RdM nx e b p L S σ) : F_X12_isDigit σ = (if dig (nx p) = true then 1 else 0, σ) := by
  obtain ⟨r, e1, e2⟩ := nextM hx h
  unfold F_X12_isDigit F_X12_in
  rw [e1, fb_e]
  have z1 : (48 : Int32).toInt = 48 := rfl
  have z2 : (57 : Int32).toInt = 57 := rfl
  by_cases q1 : r < (48 : Int32)
  · have q1' := Int32.lt_iff_toInt_lt.mp q1
    rw [if_pos q1, if_neg (show ¬ dig (nx p) = true from fun h9 => by have := of_decide_eq_true h9; omega), fb_e]
  · have q1' : ¬ r.toInt < (48 : Int32).toInt := fun h9 => q1 (Int32.lt_iff_toInt_lt.mpr h9)
    rw [if_neg q1]
    by_cases q2 : (57 : Int32) < r
    · have q2' := Int32.lt_iff_toInt_lt.mp q2
      rw [if_pos q2, if_neg (show ¬ dig (nx p) = true from fun h9 => by have := of_decide_eq_true h9; omega), fb_e]
    · have q2' : ¬ (57 : Int32).toInt < r.toInt := fun h9 => q2 (Int32.lt_iff_toInt_lt.mpr h9)
      rw [if_neg q2, if_pos (show dig (nx p) = true from decide_eq_true (by omega)), fb_e]
theorem digsM {nx e b p L S σ} {v : Int32} (h : RdM nx e b p L S σ) : RdM nx e b p L S (si σ 74 15 v) ∧ FXm b σ (si σ 74 15 v) := by
  refine ⟨⟨?_, ?_, ?_, ?_, ?_, ?_, WSm_si (by decide +kernel) _ _ h.ws, ?_, h.le, h.bb, h.ll⟩, FX_si FX_rf (Or.inr (Or.inl ⟨rfl, by decide +kernel⟩))⟩
  · rw [gi_si_ne (Or.inr (by decide +kernel))]; exact h.en
  · intro q hq; rw [gi_si_ne (Or.inl (by decide +kernel))]; exact h.tx q hq
  · rw [gi_si_ne (Or.inr (by decide +kernel))]; exact h.at_
  · rw [gi_si_ne (Or.inr (by decide +kernel))]; exact h.cn
  · intro j t ht; rw [gi_si_ne (Or.inl (by decide +kernel))]; exact h.cd j t ht
  · rw [gi_si_ne (Or.inr (by decide +kernel))]; exact h.wn
  · rw [gi_si_ne (Or.inr (by decide +kernel))]; exact h.op
/-- one digit more -/
theorem digM1 {nx e b p L S σ} {d : Nat} (hx : NXo nx e) (h : RdM nx e b p L S σ) (hd : dig (nx p) = true) (h15 : (gi σ 74 15).toInt = (d : Int)) (hd9 : d ≤ 9) (n : Nat) (x1 : Int32) (hx1 : ¬ (2 : Int32) ≤ x1) :
    ∃ σ', LF_X12_takesNumber (n + 1) x1 σ = LF_X12_takesNumber n (x1 + 1) σ' ∧ RdM nx e b (p + 1) L S σ' ∧ (gi σ' 74 15).toInt = ((10 * d + (nx p - 48).toNat : Nat) : Int) ∧ FXm b σ σ' := by
  have b0 := of_decide_eq_true hd
  have hp : p < e := ltC hx rfl (by omega)
  obtain ⟨r, s1, s2⟩ := nextM hx h
  have z48 : (48 : Int32).toInt = 48 := rfl
  have m1 : ((10 : Int32) * (gi σ 74 15)).toInt = 10 * (gi σ 74 15).toInt := i_mull rfl (by omega) (by omega)
  have m2 : (((10 : Int32) * (gi σ 74 15)) + r).toInt = ((10 : Int32) * (gi σ 74 15)).toInt + r.toInt := i_add (by omega) (by omega)
  have m3 : ((((10 : Int32) * (gi σ 74 15)) + r) - (48 : Int32)).toInt = (((10 : Int32) * (gi σ 74 15)) + r).toInt - 48 := i_sub (y := (48 : Int32)) (by show (_ : Int) ≤ (((10 : Int32) * (gi σ 74 15)) + r).toInt - 48; omega) (by show (((10 : Int32) * (gi σ 74 15)) + r).toInt - 48 ≤ (_ : Int); omega)
  obtain ⟨a1, a2⟩ := digsM (v := (((10 : Int32) * (gi σ 74 15)) + r) - (48 : Int32)) h
  obtain ⟨c1, c2⟩ := advM hx a1 hp
  refine ⟨_, ?_, c1, ?_, FXm_tr a2 c2⟩
  · show LB_X12_takesNumber_16 (LF_X12_takesNumber n) x1 σ = _
    unfold LB_X12_takesNumber_16
    rw [if_neg hx1, digitM hx h, if_pos hd, fb_e, if_neg (show ¬ (1 : Int32) = 0 by decide +kernel), s1, fb_e, fl_e, fl_e, fl_e]
  · rw [gi_si_ne (Or.inr (by decide +kernel)), gi_si_eq, m3, m2, m1, h15, s2]
    omega
theorem numM {nx e b p L S σ} (hx : NXo nx e) (h : RdM nx e b p L S σ) :
    ((pnum nx p).1 = true → ∃ σ', F_X12_takesNumber σ = (1, σ') ∧ (gi σ' 74 15).toInt = ((pnum nx p).2.2 : Int) ∧ (pnum nx p).2.2 ≤ 99 ∧ RdM nx e b (pnum nx p).2.1 L S σ' ∧ FXm b σ σ' ∧ p + 1 ≤ (pnum nx p).2.1) ∧ ((pnum nx p).1 = false → F_X12_takesNumber σ = (0, σ) ∧ (pnum nx p).2.1 = p) := by
  unfold F_X12_takesNumber
  rw [digitM hx h, fb_e]
  by_cases d0 : dig (nx p) = true
  · have b0 := of_decide_eq_true d0
    rw [if_pos d0, if_neg (show ¬ (1 : Int32) = 0 by decide +kernel), fl_e]
    obtain ⟨a1, a2⟩ := digsM (v := 0) h
    obtain ⟨σ1, e1, c1, c2, c3⟩ := digM1 (d := 0) hx a1 d0 (by rw [gi_si_eq]; rfl) (by decide +kernel) 8 0 (by decide +kernel)
    rw [e1, show (0 : Int32) + 1 = 1 from by decide +kernel]
    by_cases d1 : dig (nx (p + 1)) = true
    · have b1 := of_decide_eq_true d1
      have ep : pnum nx p = (true, p + 2, 10 * (nx p - 48).toNat + (nx (p + 1) - 48).toNat) := by unfold pnum; rw [if_pos d0, if_pos d1]
      obtain ⟨σ2, e2, g1, g2, g3⟩ := digM1 (d := 10 * 0 + (nx p - 48).toNat) hx c1 d1 c2 (by omega) 7 1 (by decide +kernel)
      rw [e2, show (1 : Int32) + 1 = 2 from by decide +kernel, ep]
      have e3 : LF_X12_takesNumber 7 2 σ2 = (1, σ2) := by
        show LB_X12_takesNumber_16 (LF_X12_takesNumber 6) 2 σ2 = _
        unfold LB_X12_takesNumber_16
        rw [if_pos (by decide +kernel)]
      refine ⟨fun _ => ⟨σ2, e3, ?_, ?_, g1, FXm_tr a2 (FXm_tr c3 g3), by show p + 1 ≤ p + 2; omega⟩, fun h9 => by cases h9⟩
      · rw [g2]; show ((10 * (10 * 0 + (nx p - 48).toNat) + (nx (p + 1) - 48).toNat : Nat) : Int) = ((10 * (nx p - 48).toNat + (nx (p + 1) - 48).toNat : Nat) : Int); omega
      · show 10 * (nx p - 48).toNat + (nx (p + 1) - 48).toNat ≤ 99; omega
    · have ep : pnum nx p = (true, p + 1, (nx p - 48).toNat) := by unfold pnum; rw [if_pos d0, if_neg d1]
      have e3 : LF_X12_takesNumber 8 1 σ1 = (1, σ1) := by
        show LB_X12_takesNumber_16 (LF_X12_takesNumber 7) 1 σ1 = _
        unfold LB_X12_takesNumber_16
        rw [if_neg (by decide +kernel), digitM hx c1, if_neg d1, fb_e, if_pos rfl]
      rw [ep]
      refine ⟨fun _ => ⟨σ1, e3, ?_, ?_, c1, FXm_tr a2 c3, Nat.le_refl _⟩, fun h9 => by cases h9⟩
      · rw [c2]; show ((10 * 0 + (nx p - 48).toNat : Nat) : Int) = (((nx p - 48).toNat : Nat) : Int); omega
      · show (nx p - 48).toNat ≤ 99; omega
  · have ep : pnum nx p = (false, p, 0) := by unfold pnum; rw [if_neg d0]
    rw [ep, if_neg d0, if_pos rfl]
    exact ⟨fun h9 => (by cases h9), fun _ => ⟨rfl, rfl⟩⟩
theorem letterM {r : Int32} {c : Int} (h : r.toInt = c) {σ : Sg} : F_X12_letterAt r σ = (oI (ltr c), σ) := by
  unfold F_X12_letterAt
  rw [h]
  by_cases h1 : c = 109
  · rw [h1]; rfl
  by_cases h2 : c = 107
  · rw [h2]; rfl
  by_cases h3 : c = 112
  · rw [h3]; rfl
  by_cases h4 : c = 101
  · rw [h4]; rfl
  by_cases h5 : c = 116
  · rw [h5]; rfl
  by_cases h6 : c = 100
  · rw [h6]; rfl
  have e : ltr c = none := by unfold ltr; rw [if_neg h1, if_neg h2, if_neg h3, if_neg h4, if_neg h5, if_neg h6]
  rw [e]
  simp only [h1, h2, h3, h4, h5, h6, if_false, ite_self]
  rfl
theorem testM {nx e b p L S σ} (hx : NXo nx e) (h : RdM nx e b p L S σ) (hl : L.length + S.length < 200) :
    ((ptest nx p).1 = true → ∃ σ', F_X12_takesTest σ = (1, σ') ∧ RdM nx e b (ptest nx p).2.1 (L ++ (ptest nx p).2.2 ++ nots S) (popN S) σ' ∧ (ptest nx p).2.2.length = 1 ∧ FXm b σ σ') ∧ ((ptest nx p).1 = false → ∃ σ', F_X12_takesTest σ = (0, σ') ∧ (gi σ' 74 14).toInt = ((ptest nx p).2.1 : Int) ∧ FXm b σ σ') := by
  obtain ⟨r, s1, s2⟩ := nextM hx h
  unfold F_X12_takesTest ptest
  rw [s1, fb_e, letterM s2, fb_e]
  cases e1 : ltr (nx p) with
  | none =>
    rw [if_neg (show ¬ (0 : Int32) ≤ oI none by decide +kernel)]
    exact ⟨fun h9 => (by cases h9), fun _ => ⟨_, rfl, h.at_, FXm_rf⟩⟩
  | some f =>
    obtain ⟨f5, c0'⟩ := ltr_lt e1
    obtain ⟨a1, a2⟩ := advM hx h (ltC hx rfl c0')
    obtain ⟨σ4, e4⟩ : ∃ σ4, σ4 = si σ 74 14 ((gi σ 74 14) + (1 : Int32)) := ⟨_, rfl⟩
    rw [if_pos (oI_ge f5), ← e4, fl_e]
    rw [← e4] at a1 a2
    obtain ⟨r8, u1, u2⟩ := nextM hx a1
    have z60 : (60 : Int32).toInt = 60 := rfl
    have z62 : (62 : Int32).toInt = 62 := rfl
    rw [u1, fb_e]
    show (_ → _) ∧ (_ → _)
    cases e2 : cmpn (nx (p + 1)) with
    | none =>
      have hn : F_X12_in r8 (60 : Int32) (62 : Int32) σ4 = (0, σ4) := by
        unfold F_X12_in
        have : nx (p + 1) < 60 ∨ 62 < nx (p + 1) := by
          unfold cmpn at e2
          repeat' split at e2
          all_goals first | omega | cases e2
        rcases this with q | q
        · rw [if_pos (Int32.lt_iff_toInt_lt.mpr (by omega))]
        · rw [if_neg (fun h9 => by have := Int32.lt_iff_toInt_lt.mp h9; omega), if_pos (Int32.lt_iff_toInt_lt.mpr (by omega))]
      rw [hn, fb_e, if_pos rfl]
      exact ⟨fun h9 => (by cases h9), fun _ => ⟨_, rfl, a1.at_, a2⟩⟩
    | some s =>
      obtain ⟨s3, c1'⟩ := cmp_lt e2
      have hv : nx (p + 1) = 60 + (s : Int) := by
        unfold cmpn at e2
        repeat' split at e2
        all_goals first | (cases e2; omega) | cases e2
      have hn : F_X12_in r8 (60 : Int32) (62 : Int32) σ4 = (1, σ4) := by
        unfold F_X12_in
        rw [if_neg (fun h9 => by have := Int32.lt_iff_toInt_lt.mp h9; omega), if_neg (fun h9 => by have := Int32.lt_iff_toInt_lt.mp h9; omega)]
      obtain ⟨a3, a4⟩ := advM hx a1 (ltC hx rfl c1')
      obtain ⟨σ8, e8⟩ : ∃ σ8, σ8 = si σ4 74 14 ((gi σ4 74 14) + (1 : Int32)) := ⟨_, rfl⟩
      rw [hn, fb_e, if_neg (show ¬ (1 : Int32) = 0 by decide +kernel), ← e8, fl_e]
      rw [← e8] at a3 a4
      replace a3 : RdM nx e b (p + 2) L S σ8 := a3
      have g3 := numM hx a3
      by_cases hq : (pnum nx (p + 2)).1 = true
      · obtain ⟨σ9, r1, r2, r3, r4, r5, r6⟩ := g3.1 hq
        rw [r1, fb_e, if_neg (show ¬ (1 : Int32) = 0 by decide +kernel), fl_e]
        have of := oI_some f5
        have n1 : (r8 - (60 : Int32)).toInt = r8.toInt - 60 := i_sub (y := (60 : Int32)) (by show (_ : Int) ≤ r8.toInt - 60; omega) (by show r8.toInt - 60 ≤ (_ : Int); omega)
        have m1 : ((1000 : Int32) * oI (some f)).toInt = 1000 * (oI (some f)).toInt := i_mull rfl (by omega) (by omega)
        have m2 : ((100 : Int32) * (r8 - (60 : Int32))).toInt = 100 * (r8 - (60 : Int32)).toInt := i_mull rfl (by omega) (by omega)
        have m3 : (((1000 : Int32) * oI (some f)) + ((100 : Int32) * (r8 - (60 : Int32)))).toInt = ((1000 : Int32) * oI (some f)).toInt + ((100 : Int32) * (r8 - (60 : Int32))).toInt := i_add (by omega) (by omega)
        have m4 : ((((1000 : Int32) * oI (some f)) + ((100 : Int32) * (r8 - (60 : Int32)))) + (gi σ9 74 15)).toInt = (((1000 : Int32) * oI (some f)) + ((100 : Int32) * (r8 - (60 : Int32)))).toInt + (gi σ9 74 15).toInt := i_add (by omega) (by omega)
        have ev : ((((1000 : Int32) * oI (some f)) + ((100 : Int32) * (r8 - (60 : Int32)))) + (gi σ9 74 15)) = encM (.T f s (pnum nx (p + 2)).2.2) := by
          apply Int32.toInt_inj.mp
          show _ = (Int32.ofNat (f * 1000 + s * 100 + (pnum nx (p + 2)).2.2)).toInt
          rw [Int32.toInt_ofNat_of_lt (by omega), m4, m3, m1, m2, n1, of, u2, hv, r2]
          omega
        obtain ⟨w1, w2⟩ := emitsM hx r4 (by omega) ev
        have hl2 : (L ++ [Tok.T f s (pnum nx (p + 2)).2.2]).length + S.length < 300 := by rw [List.length_append]; show L.length + 1 + S.length < 300; omega
        obtain ⟨σa, ea⟩ : ∃ σa, σa = F_X12_emits ((((1000 : Int32) * oI (some f)) + ((100 : Int32) * (r8 - (60 : Int32)))) + (gi σ9 74 15)) σ9 := ⟨_, rfl⟩
        rw [← ea] at w1 w2 ⊢
        obtain ⟨y1, y2⟩ := wholeM hx S 200 _ _ w1 (by omega) hl2
        refine ⟨fun _ => ⟨LF_X12_whole 200 σa, rfl, ?_, ?_, FXm_tr a2 (FXm_tr a4 (FXm_tr r5 (FXm_tr w2 y2)))⟩, fun h9 => ?_⟩
        · show RdM nx e b (if (pnum nx (p + 2)).1 = true then (true, (pnum nx (p + 2)).2.1, [Tok.T f s (pnum nx (p + 2)).2.2]) else (false, (pnum nx (p + 2)).2.1, []) : PRd).2.1 (L ++ (if (pnum nx (p + 2)).1 = true then (true, (pnum nx (p + 2)).2.1, [Tok.T f s (pnum nx (p + 2)).2.2]) else (false, (pnum nx (p + 2)).2.1, []) : PRd).2.2 ++ nots S) (popN S) (LF_X12_whole 200 σa)
          rw [if_pos hq]; exact y1
        · show (if (pnum nx (p + 2)).1 = true then (true, (pnum nx (p + 2)).2.1, [Tok.T f s (pnum nx (p + 2)).2.2]) else (false, (pnum nx (p + 2)).2.1, []) : PRd).2.2.length = 1
          rw [if_pos hq]; rfl
        · exfalso
          have h9 : (if (pnum nx (p + 2)).1 = true then (true, (pnum nx (p + 2)).2.1, [Tok.T f s (pnum nx (p + 2)).2.2]) else (false, (pnum nx (p + 2)).2.1, []) : PRd).1 = false := h9
          rw [if_pos hq] at h9; cases h9
      · have hq' : (pnum nx (p + 2)).1 = false := Bool.eq_false_iff.mpr hq
        obtain ⟨r1, r2⟩ := g3.2 hq'
        rw [r1, fb_e, if_pos rfl]
        refine ⟨fun h9 => ?_, fun _ => ⟨σ8, rfl, ?_, FXm_tr a2 a4⟩⟩
        · exfalso
          have h9 : (if (pnum nx (p + 2)).1 = true then (true, (pnum nx (p + 2)).2.1, [Tok.T f s (pnum nx (p + 2)).2.2]) else (false, (pnum nx (p + 2)).2.1, []) : PRd).1 = true := h9
          rw [if_neg hq] at h9; cases h9
        · show (gi σ8 74 14).toInt = ((if (pnum nx (p + 2)).1 = true then (true, (pnum nx (p + 2)).2.1, [Tok.T f s (pnum nx (p + 2)).2.2]) else (false, (pnum nx (p + 2)).2.1, []) : PRd).2.1 : Int)
          rw [if_neg hq, r2]; exact a3.at_
theorem nots_len : ∀ S : List Int, (nots S).length + (popN S).length = S.length := by
  intro S
  induction S with
  | nil => rfl
  | cons c S ih =>
    rw [nots_c, popN_c]
    by_cases h : c = 33
    · rw [if_pos h, if_pos h, List.length_cons, List.length_cons]; omega
    · rw [if_neg h, if_neg h]; exact Nat.zero_add _
theorem setO_len {s : Int} : ∀ S : List Int, (setO s S).length + (setS s S).length = S.length := by
  intro S
  induction S with
  | nil => rfl
  | cons c S ih =>
    rw [setO_c, setS_c]
    by_cases h : c = 38 ∨ (c = 124 ∧ s ≠ 38)
    · rw [if_pos h, if_pos h, List.length_cons, List.length_cons]; omega
    · rw [if_neg h, if_neg h]; exact Nat.zero_add _
/-- one more on the pile: no bracket, no not -/
theorem pushM0 {nx e b p L S σ} {v : Int32} {c : Int} (h : RdM nx e b p L S σ) (hl : L.length + S.length < 300) (hv : v.toInt = c) (hc : ¬ (c = 33 ∨ c = 40)) :
    RdM nx e b p L (c :: S) (si (si σ 123 (gi σ 74 25).toNatClampNeg v) 74 25 ((gi (si σ 123 (gi σ 74 25).toNatClampNeg v) 74 25) + (1 : Int32))) ∧ FXm b σ (si (si σ 123 (gi σ 74 25).toNatClampNeg v) 74 25 ((gi (si σ 123 (gi σ 74 25).toNatClampNeg v) 74 25) + (1 : Int32))) := by
  have w := h.wn
  have l : (c :: S).length = S.length + 1 := rfl
  have ec := cl_eq (x := gi σ 74 25) (by omega)
  have ek : (gi σ 74 25).toNatClampNeg = S.length := by omega
  have t1 : ((gi σ 74 25) + (1 : Int32)).toInt = (gi σ 74 25).toInt + 1 := i_add (y := (1 : Int32)) (by show (_ : Int) ≤ (gi σ 74 25).toInt + 1; omega) (by show (gi σ 74 25).toInt + 1 ≤ (_ : Int); omega)
  have o : opn (c :: S) = opn S := by rw [opn_c, if_neg hc]
  rw [ek, gi_si_ne (show (74 : Nat) ≠ 123 ∨ 25 ≠ S.length from Or.inl (by decide +kernel))]
  refine ⟨⟨?_, ?_, ?_, ?_, ?_, ?_, WSm_si (by decide +kernel) _ _ ⟨by rw [gi_si_eq]; exact hv, WSm_up _ _ (Nat.le_refl _) h.ws⟩, ?_, h.le, h.bb, ?_⟩, FX_si (FX_si FX_rf (Or.inl rfl)) (Or.inr (Or.inl ⟨rfl, by decide +kernel⟩))⟩
  · rw [gi_si_ne (Or.inr (by decide +kernel)), gi_si_ne (Or.inl (by decide +kernel))]; exact h.en
  · intro q hq; rw [gi_si_ne (Or.inl (by decide +kernel)), gi_si_ne (Or.inl (by decide +kernel))]; exact h.tx q hq
  · rw [gi_si_ne (Or.inr (by decide +kernel)), gi_si_ne (Or.inl (by decide +kernel))]; exact h.at_
  · rw [gi_si_ne (Or.inr (by decide +kernel)), gi_si_ne (Or.inl (by decide +kernel))]; exact h.cn
  · intro j t ht; rw [gi_si_ne (Or.inl (by decide +kernel)), gi_si_ne (Or.inl (by decide +kernel))]; exact h.cd j t ht
  · rw [gi_si_eq, t1, l]; omega
  · rw [gi_si_ne (Or.inr (by decide +kernel)), gi_si_ne (Or.inl (by decide +kernel)), o]; exact h.op
  · rw [l]; omega
/-- one more on the pile: a bracket or a not -/
theorem pushM1 {nx e b p L S σ} {v : Int32} {c : Int} (h : RdM nx e b p L S σ) (hl : L.length + S.length < 300) (hv : v.toInt = c) (hc : c = 33 ∨ c = 40) (σ2 : Sg) (e2 : σ2 = si σ 74 26 ((gi σ 74 26) + (1 : Int32))) :
    RdM nx e b p L (c :: S) (si (si σ2 123 (gi σ2 74 25).toNatClampNeg v) 74 25 ((gi (si σ2 123 (gi σ2 74 25).toNatClampNeg v) 74 25) + (1 : Int32))) ∧ FXm b σ (si (si σ2 123 (gi σ2 74 25).toNatClampNeg v) 74 25 ((gi (si σ2 123 (gi σ2 74 25).toNatClampNeg v) 74 25) + (1 : Int32))) := by
  have w := h.wn
  have op := h.op
  have g25 : gi σ2 74 25 = gi σ 74 25 := by rw [e2, gi_si_ne (Or.inr (by decide +kernel))]
  have lop : opn S ≤ S.length := by
    have : ∀ S : List Int, opn S ≤ S.length := by
      intro S
      induction S with
      | nil => exact Nat.le_refl _
      | cons c S ih =>
        rw [opn_c, List.length_cons]
        by_cases hh : c = 33 ∨ c = 40
        · rw [if_pos hh]; omega
        · rw [if_neg hh]; omega
    exact this S
  have l : (c :: S).length = S.length + 1 := rfl
  have ec := cl_eq (x := gi σ 74 25) (by omega)
  have ek : (gi σ 74 25).toNatClampNeg = S.length := by omega
  have t1 : ((gi σ 74 25) + (1 : Int32)).toInt = (gi σ 74 25).toInt + 1 := i_add (y := (1 : Int32)) (by show (_ : Int) ≤ (gi σ 74 25).toInt + 1; omega) (by show (gi σ 74 25).toInt + 1 ≤ (_ : Int); omega)
  have t2 : ((gi σ 74 26) + (1 : Int32)).toInt = (gi σ 74 26).toInt + 1 := i_add (y := (1 : Int32)) (by show (_ : Int) ≤ (gi σ 74 26).toInt + 1; omega) (by show (gi σ 74 26).toInt + 1 ≤ (_ : Int); omega)
  have o : opn (c :: S) = opn S + 1 := by rw [opn_c, if_pos hc]
  rw [g25, ek, gi_si_ne (show (74 : Nat) ≠ 123 ∨ 25 ≠ S.length from Or.inl (by decide +kernel)), g25, e2]
  refine ⟨⟨?_, ?_, ?_, ?_, ?_, ?_, WSm_si (by decide +kernel) _ _ ⟨by rw [gi_si_eq]; exact hv, WSm_up _ _ (Nat.le_refl _) (WSm_si (by decide +kernel) _ _ h.ws)⟩, ?_, h.le, h.bb, ?_⟩, FX_si (FX_si (FX_si FX_rf (Or.inr (Or.inl ⟨rfl, by decide +kernel⟩))) (Or.inl rfl)) (Or.inr (Or.inl ⟨rfl, by decide +kernel⟩))⟩
  · rw [gi_si_ne (Or.inr (by decide +kernel)), gi_si_ne (Or.inl (by decide +kernel)), gi_si_ne (Or.inr (by decide +kernel))]; exact h.en
  · intro q hq; rw [gi_si_ne (Or.inl (by decide +kernel)), gi_si_ne (Or.inl (by decide +kernel)), gi_si_ne (Or.inl (by decide +kernel))]; exact h.tx q hq
  · rw [gi_si_ne (Or.inr (by decide +kernel)), gi_si_ne (Or.inl (by decide +kernel)), gi_si_ne (Or.inr (by decide +kernel))]; exact h.at_
  · rw [gi_si_ne (Or.inr (by decide +kernel)), gi_si_ne (Or.inl (by decide +kernel)), gi_si_ne (Or.inr (by decide +kernel))]; exact h.cn
  · intro j t ht; rw [gi_si_ne (Or.inl (by decide +kernel)), gi_si_ne (Or.inl (by decide +kernel)), gi_si_ne (Or.inl (by decide +kernel))]; exact h.cd j t ht
  · rw [gi_si_eq, t1, l]; omega
  · rw [gi_si_ne (Or.inr (by decide +kernel)), gi_si_ne (Or.inl (by decide +kernel)), gi_si_eq, t2, o]; omega
  · rw [l]; omega
noncomputable def FXe (b c : Nat) (σ σ' : Sg) : Prop := FX (fun id => id = 123) (fun id k => (id = 74 ∧ (k = 14 ∨ k = 15 ∨ k = 24 ∨ k = 25 ∨ k = 26)) ∨ (id = 122 ∧ b ≤ k) ∨ (id = 121 ∧ k = c)) σ σ'
theorem FXe_m {b c : Nat} {σ σ' : Sg} (f : FXm b σ σ') : FXe b c σ σ' := FX_tr FX_rf f (fun _ h => h) (fun _ _ h => Or.inr (h.elim Or.inl (fun h => Or.inr (Or.inl h))))
theorem FXe_tr {b c : Nat} {σ σ1 σ2 : Sg} (f : FXe b c σ σ1) (g : FXe b c σ1 σ2) : FXe b c σ σ2 := FX_tr f g (fun _ h => h) (fun _ _ h => Or.inr h)
/-- the clause's end is noted -/
theorem toM {nx e b p L S σ c} {v : Int32} (h : RdM nx e b p L S σ) : RdM nx e b p L S (si σ 121 c v) ∧ FXe b c σ (si σ 121 c v) := by
  refine ⟨⟨?_, ?_, ?_, ?_, ?_, ?_, WSm_si (by decide +kernel) _ _ h.ws, ?_, h.le, h.bb, h.ll⟩, FX_si FX_rf (Or.inr (Or.inr (Or.inr ⟨rfl, rfl⟩)))⟩
  · rw [gi_si_ne (Or.inl (by decide +kernel))]; exact h.en
  · intro q hq; rw [gi_si_ne (Or.inl (by decide +kernel))]; exact h.tx q hq
  · rw [gi_si_ne (Or.inl (by decide +kernel))]; exact h.at_
  · rw [gi_si_ne (Or.inl (by decide +kernel))]; exact h.cn
  · intro j t ht; rw [gi_si_ne (Or.inl (by decide +kernel))]; exact h.cd j t ht
  · rw [gi_si_ne (Or.inl (by decide +kernel))]; exact h.wn
  · rw [gi_si_ne (Or.inl (by decide +kernel))]; exact h.op
/-- what the loop comes to -/
noncomputable def REm (nx : Nat → Int) (e b k0 : Nat) (x1 : Int32) (σ : Sg) (x : Int32 × Sg) (R : PRd) : Prop :=
  (R.1 = true → x.1 = 1 ∧ RdM nx e b R.2.1 R.2.2 [] x.2 ∧ (gi x.2 121 x1.toNatClampNeg).toInt = ((b + R.2.2.length : Nat) : Int) ∧ R.2.2.length + k0 ≤ R.2.1) ∧ (R.1 = false → x.1 = 0 ∧ (gi x.2 74 14).toInt = (R.2.1 : Int)) ∧ FXe b x1.toNatClampNeg σ x.2
theorem REm_tr {nx e b k0 x1 σ σ1 x R} (f : FXe b x1.toNatClampNeg σ σ1) (h : REm nx e b k0 x1 σ1 x R) : REm nx e b k0 x1 σ x R := ⟨h.1, h.2.1, FXe_tr f h.2.2⟩
theorem ptest_le {nx e p} (hx : NXo nx e) (h : (ptest nx p).1 = true) : p + 3 ≤ (ptest nx p).2.1 := by
  unfold ptest at h ⊢
  cases e1 : ltr (nx p) with
  | none => rw [e1] at h; cases h
  | some f =>
    rw [e1] at h
    cases e2 : cmpn (nx (p + 1)) with
    | none => simp only [e2] at h; cases h
    | some s =>
      simp only [e2] at h ⊢
      by_cases hq : (pnum nx (p + 2)).1 = true
      · rw [if_pos hq]
        show p + 3 ≤ (pnum nx (p + 2)).2.1
        unfold pnum at hq ⊢
        by_cases d0 : dig (nx (p + 2)) = true
        · rw [if_pos d0]
          by_cases d1 : dig (nx (p + 2 + 1)) = true
          · rw [if_pos d1]; show p + 3 ≤ p + 2 + 2; omega
          · rw [if_neg d1]; exact Nat.le_refl _
        · rw [if_neg d0] at hq; cases hq
      · rw [if_neg hq] at h; cases h
theorem popN_sub : ∀ S : List Int, ∀ c, c ∈ popN S → c ∈ S := by
  intro S
  induction S with
  | nil => exact fun _ h => h
  | cons b S ih =>
    intro c h
    rw [popN_c] at h
    by_cases q : b = 33
    · rw [if_pos q] at h; exact List.mem_cons_of_mem _ (ih c h)
    · rw [if_neg q] at h; exact h
theorem setS_sub {s : Int} : ∀ S : List Int, ∀ c, c ∈ setS s S → c ∈ S := by
  intro S
  induction S with
  | nil => exact fun _ h => h
  | cons b S ih =>
    intro c h
    rw [setS_c] at h
    by_cases q : b = 38 ∨ (b = 124 ∧ s ≠ 38)
    · rw [if_pos q] at h; exact List.mem_cons_of_mem _ (ih c h)
    · rw [if_neg q] at h; exact h
theorem setS_hd {s : Int} : ∀ S : List Int, ∀ c S', setS s S = c :: S' → ¬ (c = 38 ∨ (c = 124 ∧ s ≠ 38)) := by
  intro S
  induction S with
  | nil => intro c S' h; cases h
  | cons b S ih =>
    intro c S' h
    rw [setS_c] at h
    by_cases q : b = 38 ∨ (b = 124 ∧ s ≠ 38)
    · rw [if_pos q] at h; exact ih c S' h
    · rw [if_neg q] at h; cases h; exact q
noncomputable def okS (S : List Int) : Prop := ∀ c, c ∈ S → c = 33 ∨ c = 40 ∨ c = 38 ∨ c = 124
theorem okS_c {c : Int} {S : List Int} (h : c = 33 ∨ c = 40 ∨ c = 38 ∨ c = 124) (g : okS S) : okS (c :: S) := fun x hx => by
  rcases List.mem_cons.mp hx with rfl | hx
  · exact h
  · exact g x hx
theorem takesEM {nx e b k0 x1} (hx : NXo nx e) : ∀ m w S p L σ n (x2 : Int32), RdM nx e b p L S σ → L.length + S.length + k0 ≤ p → okS S → e + 1 < m + p + 1 → 2 * m ≤ n → (w = true ↔ ¬ x2 = 0) →
    REm nx e b k0 x1 σ (LF_X12_takesE n 0 x1 x2 0 σ) (prun nx (ptest nx) m w S p L) := by
  intro m
  induction m with
  | zero => intro w S p L σ n x2 h hs _ h1 h2 _; have := h.le; omega
  | succ m ih =>
    intro w S p L σ n x2 h hs hok h1 h2 hw
    obtain ⟨n, rfl⟩ : ∃ k, n = k + 2 := ⟨n - 2, by omega⟩
    have ple := h.le
    have e100 := hx.le
    obtain ⟨r, s1, s2⟩ := nextM hx h
    have z38 : (38 : Int32).toInt = 38 := rfl
    have z124 : (124 : Int32).toInt = 124 := rfl
    have z33 : (33 : Int32).toInt = 33 := rfl
    have z40 : (40 : Int32).toInt = 40 := rfl
    have z41 : (41 : Int32).toInt = 41 := rfl
    have E0 : LF_X12_takesE (n + 2) 0 x1 x2 0 σ = LB_X12_takesE_22 (LF_X12_takesE (n + 1)) x1 x2 σ := Eq.trans rfl rfl
    rw [E0]
    unfold LB_X12_takesE_22
    rw [s1, fb_e]
    cases w with
    | false =>
      have hx2 : x2 = 0 := Classical.byContradiction (fun h9 => by have := hw.mpr h9; cases this)
      rw [if_pos hx2, prun_f]
      by_cases q : nx p = 38 ∨ nx p = 124
      · have hr : r = 38 ∨ r = 124 := q.elim (fun h => Or.inl (Int32.toInt_inj.mp (by rw [s2, h, z38]))) (fun h => Or.inr (Int32.toInt_inj.mp (by rw [s2, h, z124])))
        have hp : p < e := q.elim (fun h => ltC hx h (by decide +kernel)) (fun h => ltC hx h (by decide +kernel))
        obtain ⟨a1, a2⟩ := settleM hx (x1 := r) s2 S 400 L σ h (by omega) (by omega)
        have sl := setO_len (s := nx p) S
        obtain ⟨σ1, q1⟩ : ∃ σ1, σ1 = LF_X12_settle 400 0 r σ := ⟨_, rfl⟩
        rw [← q1] at a1 a2
        obtain ⟨c1, c2⟩ := pushM0 (v := r) (c := nx p) a1 (by rw [List.length_append]; omega) s2 (by omega)
        obtain ⟨d1, d2⟩ := advM hx c1 hp
        have k := ih true (nx p :: setS (nx p) S) (p + 1) (L ++ setO (nx p) S) _ n (1 : Int32) d1 (by rw [List.length_append, List.length_cons]; omega) (okS_c (by omega) (fun x hx9 => hok x (setS_sub S x hx9))) (by omega) (by omega) ⟨fun _ => by decide +kernel, fun _ => rfl⟩
        have E1 : LF_X12_takesE (n + 1) 1 x1 0 r σ = LF_X12_takesE n 0 x1 1 0 (si (si (si σ1 123 (gi σ1 74 25).toNatClampNeg r) 74 25 ((gi (si σ1 123 (gi σ1 74 25).toNatClampNeg r) 74 25) + (1 : Int32))) 74 14 ((gi (si (si σ1 123 (gi σ1 74 25).toNatClampNeg r) 74 25 ((gi (si σ1 123 (gi σ1 74 25).toNatClampNeg r) 74 25) + (1 : Int32))) 74 14) + (1 : Int32))) := by
          show LB_X12_takesE_122 (LF_X12_takesE n) x1 r σ = _
          unfold LB_X12_takesE_122 F_X12_settle
          rw [← q1, fl_e, fl_e, fl_e, fl_e]
        rw [if_pos q]
        rcases hr with hr | hr
        · rw [if_pos hr, E1]
          exact REm_tr (FXe_m (FXm_tr a2 (FXm_tr c2 d2))) k
        · rw [if_neg (by rw [hr]; decide), if_pos hr, E1]
          exact REm_tr (FXe_m (FXm_tr a2 (FXm_tr c2 d2))) k
      · have q38 : ¬ r = 38 := fun h9 => q (Or.inl (by rw [← s2, h9]; rfl))
        have q124 : ¬ r = 124 := fun h9 => q (Or.inr (by rw [← s2, h9]; rfl))
        rw [if_neg q38, if_neg q124, if_neg q, fl_e, fl_e]
        obtain ⟨a1, a2⟩ := settleM hx (x1 := 124) (s := 124) rfl S 400 L σ h (by omega) (by omega)
        have sl := setO_len (s := 124) S
        obtain ⟨σ6, q6⟩ : ∃ σ6, σ6 = F_X12_settle (124 : Int32) σ := ⟨_, rfl⟩
        rw [show LF_X12_settle 400 0 124 σ = σ6 from q6.symm] at a1 a2
        rw [← q6]
        have cn := a1.cn
        obtain ⟨b1, b2⟩ := toM (c := x1.toNatClampNeg) (v := gi σ6 74 24) a1
        obtain ⟨σ8, q8⟩ : ∃ σ8, σ8 = si σ6 121 x1.toNatClampNeg (gi σ6 74 24) := ⟨_, rfl⟩
        rw [← q8] at b1 b2 ⊢
        have g8 : gi σ8 121 x1.toNatClampNeg = gi σ6 74 24 := by rw [q8, gi_si_eq]
        have wn := b1.wn
        have f8 : FXe b x1.toNatClampNeg σ σ8 := FXe_tr (FXe_m a2) b2
        have okk : okS (setS 124 S) := fun x hx9 => hok x (setS_sub S x hx9)
        have hd := setS_hd (s := 124) S
        generalize setS 124 S = S1 at b1 wn sl okk hd ⊢
        cases S1 with
        | nil =>
          have w0 : gi σ8 74 25 = 0 := Int32.toInt_inj.mp wn
          rw [if_pos w0]
          have sl : (setO 124 S).length + 0 = S.length := sl
          refine ⟨fun _ => ⟨rfl, b1, ?_, ?_⟩, fun h9 => (by cases h9), f8⟩
          · rw [g8]; exact cn
          · show (L ++ setO 124 S).length + k0 ≤ p
            rw [List.length_append]; omega
        | cons c S1 =>
          have wl : (c :: S1).length = S1.length + 1 := rfl
          have w0 : ¬ gi σ8 74 25 = 0 := fun h9 => by
            rw [h9] at wn
            have z : (0 : Int32).toInt = 0 := rfl
            omega
          have hc : c = 33 ∨ c = 40 := by
            have h8 := okk c (List.mem_cons_self ..)
            have h7 := hd c S1 rfl
            omega
          rw [if_neg w0]
          show REm nx e b k0 x1 σ _ (if nx p = 41 then _ else _)
          by_cases q41 : nx p = 41
          · obtain ⟨c1, c2⟩ := popM1 b1 hc
            obtain ⟨d1, d2⟩ := advM hx c1 (ltC hx q41 (by decide +kernel))
            rw [if_pos (Int32.toInt_inj.mp (by rw [s2, q41, z41])), if_pos q41, fl_e, fl_e, fl_e, fl_e]
            obtain ⟨σd, qd⟩ : ∃ σd, σd = si (si (si σ8 74 25 ((gi σ8 74 25) - (1 : Int32))) 74 26 ((gi (si σ8 74 25 ((gi σ8 74 25) - (1 : Int32))) 74 26) - (1 : Int32))) 74 14 ((gi (si (si σ8 74 25 ((gi σ8 74 25) - (1 : Int32))) 74 26 ((gi (si σ8 74 25 ((gi σ8 74 25) - (1 : Int32))) 74 26) - (1 : Int32))) 74 14) + (1 : Int32)) := ⟨_, rfl⟩
            rw [← qd] at d1 d2 ⊢
            have ll : (L ++ setO 124 S).length = L.length + (setO 124 S).length := List.length_append
            obtain ⟨y1, y2⟩ := wholeM hx S1 200 _ _ d1 (by omega) (by omega)
            have nl := nots_len S1
            have k := ih false (popN S1) (p + 1) _ _ (n + 1) x2 y1 (by rw [List.length_append]; omega) (fun x hx9 => okk x (List.mem_cons_of_mem _ (popN_sub S1 x hx9))) (by omega) (by omega) ⟨fun h9 => (by cases h9), fun h9 => absurd hx2 h9⟩
            exact REm_tr (FXe_tr f8 (FXe_tr (FXe_m c2) (FXe_tr (FXe_m d2) (FXe_m y2)))) k
          · rw [if_neg (fun h9 => q41 (by rw [← s2, h9]; rfl)), if_neg q41]
            exact ⟨fun h9 => (by cases h9), fun _ => ⟨rfl, b1.at_⟩, f8⟩
    | true =>
      have hx2 : ¬ x2 = 0 := hw.mp rfl
      rw [if_neg hx2, prun_t]
      by_cases q : nx p = 33 ∨ nx p = 40
      · have hp : p < e := q.elim (fun h => ltC hx h (by decide +kernel)) (fun h => ltC hx h (by decide +kernel))
        have hr : r = 33 ∨ r = 40 := q.elim (fun h => Or.inl (Int32.toInt_inj.mp (by rw [s2, h, z33]))) (fun h => Or.inr (Int32.toInt_inj.mp (by rw [s2, h, z40])))
        have op := h.op
        have z4 : (4 : Int32).toInt = 4 := rfl
        have E1 : (if r = (33 : Int32) then LF_X12_takesE (n + 1) 2 x1 x2 r σ else (if r = (40 : Int32) then LF_X12_takesE (n + 1) 2 x1 x2 r σ else fb (F_X12_takesTest σ) (fun r18 σ17 => (if r18 = 0 then ((0 : Int32), σ17) else LF_X12_takesE (n + 1) 0 x1 (0 : Int32) 0 σ17)))) = LB_X12_takesE_43 (LF_X12_takesE n) x1 x2 r σ := by
          rcases hr with hr | hr
          · rw [if_pos hr]; exact Eq.trans rfl rfl
          · rw [if_neg (by rw [hr]; decide), if_pos hr]; exact Eq.trans rfl rfl
        rw [E1, if_pos q]
        unfold LB_X12_takesE_43
        by_cases h4 : opn S = 4
        · rw [if_pos (Int32.toInt_inj.mp (by rw [op, h4, z4]; rfl)), if_pos h4]
          exact ⟨fun h9 => (by cases h9), fun _ => ⟨rfl, h.at_⟩, FXe_m FXm_rf⟩
        · rw [if_neg (fun h9 => h4 (by rw [h9, z4] at op; omega)), if_neg h4, fl_e]
          obtain ⟨σ2, e2⟩ : ∃ σ2, σ2 = si σ 74 26 ((gi σ 74 26) + (1 : Int32)) := ⟨_, rfl⟩
          rw [← e2, fl_e, fl_e, fl_e]
          obtain ⟨c1, c2⟩ := pushM1 (v := r) (c := nx p) h (by omega) s2 q σ2 e2
          obtain ⟨d1, d2⟩ := advM hx c1 hp
          have k := ih true (nx p :: S) (p + 1) L _ n x2 d1 (by rw [List.length_cons]; omega) (okS_c (by omega) hok) (by omega) (by omega) ⟨fun _ => hx2, fun _ => rfl⟩
          exact REm_tr (FXe_m (FXm_tr c2 d2)) k
      · have q33 : ¬ r = 33 := fun h9 => q (Or.inl (by rw [← s2, h9]; rfl))
        have q40 : ¬ r = 40 := fun h9 => q (Or.inr (by rw [← s2, h9]; rfl))
        rw [if_neg q33, if_neg q40, if_neg q]
        have t := testM hx h (by omega)
        by_cases ht : (ptest nx p).1 = true
        · obtain ⟨σ', t1, t2, t3, t4⟩ := t.1 ht
          have t5 := ptest_le hx ht
          have nl := nots_len S
          rw [t1, fb_e, if_neg (show ¬ (1 : Int32) = 0 by decide +kernel), if_pos ht]
          have k := ih false (popN S) _ _ _ (n + 1) (0 : Int32) t2 (by rw [List.length_append, List.length_append]; omega) (fun x hx9 => hok x (popN_sub S x hx9)) (by omega) (by omega) ⟨fun h9 => (by cases h9), fun h9 => absurd rfl h9⟩
          exact REm_tr (FXe_m t4) k
        · have ht' : (ptest nx p).1 = false := Bool.eq_false_iff.mpr ht
          obtain ⟨σ', t1, t2, t3⟩ := t.2 ht'
          rw [t1, fb_e, if_pos rfl, if_neg ht]
          exact ⟨fun h9 => (by cases h9), fun _ => ⟨rfl, t2⟩, FXe_m t3⟩
/-! what the test keeps to -/
theorem ptest_up {nx e p} (hx : NXo nx e) (hp : p ≤ e) : (ptest nx p).2.1 ≤ e ∧ p ≤ (ptest nx p).2.1 := by
  have lt : ∀ q, q ≤ e → 0 ≤ nx q → q + 1 ≤ e := fun q _ h => ltC hx rfl h
  unfold ptest
  cases e1 : ltr (nx p) with
  | none => exact ⟨hp, Nat.le_refl _⟩
  | some f =>
    have h1 := lt p hp (ltr_lt e1).2
    cases e2 : cmpn (nx (p + 1)) with
    | none => simp only [e2]; exact ⟨h1, Nat.le_succ _⟩
    | some s =>
      have h2 := lt (p + 1) h1 (cmp_lt e2).2
      have hn : (pnum nx (p + 2)).2.1 ≤ e ∧ p + 2 ≤ (pnum nx (p + 2)).2.1 := by
        unfold pnum
        by_cases d0 : dig (nx (p + 2)) = true
        · have b0 := of_decide_eq_true d0
          have h3 := lt (p + 2) h2 (by omega)
          rw [if_pos d0]
          by_cases d1 : dig (nx (p + 2 + 1)) = true
          · have b1 := of_decide_eq_true d1
            have h4 := lt (p + 2 + 1) h3 (by omega)
            rw [if_pos d1]
            exact ⟨h4, by show p + 2 ≤ p + 2 + 2; omega⟩
          · rw [if_neg d1]
            exact ⟨h3, by show p + 2 ≤ p + 2 + 1; omega⟩
        · rw [if_neg d0]; exact ⟨h2, Nat.le_refl _⟩
      simp only [e2]
      by_cases hq : (pnum nx (p + 2)).1 = true
      · rw [if_pos hq]; exact ⟨hn.1, by show p ≤ (pnum nx (p + 2)).2.1; omega⟩
      · rw [if_neg hq]; exact ⟨hn.1, by show p ≤ (pnum nx (p + 2)).2.1; omega⟩
theorem ptest_st {nx e p} (hx : NXo nx e) (h : (ptest nx p).1 = true) : p ≤ e := by
  refine Nat.le_of_not_lt (fun hp => ?_)
  unfold ptest at h
  rw [hx.hn p (by omega)] at h
  cases h
theorem ptest_q {nx p} (h : nx p = 33 ∨ nx p = 40) : (ptest nx p).1 = false ∧ (ptest nx p).2.1 = p := by
  unfold ptest
  rcases h with h | h <;> (rw [h]; exact ⟨rfl, rfl⟩)
theorem ptest_lo {nx p} : p ≤ (ptest nx p).2.1 := by
  unfold ptest
  cases e1 : ltr (nx p) with
  | none => exact Nat.le_refl _
  | some f =>
    cases e2 : cmpn (nx (p + 1)) with
    | none => simp only [e2]; exact Nat.le_succ _
    | some s =>
      have hn : p + 2 ≤ (pnum nx (p + 2)).2.1 := by
        unfold pnum
        by_cases d0 : dig (nx (p + 2)) = true
        · rw [if_pos d0]
          by_cases d1 : dig (nx (p + 2 + 1)) = true
          · rw [if_pos d1]; show p + 2 ≤ p + 2 + 2; omega
          · rw [if_neg d1]; show p + 2 ≤ p + 2 + 1; omega
        · rw [if_neg d0]; exact Nat.le_refl _
      simp only [e2]
      by_cases hq : (pnum nx (p + 2)).1 = true
      · rw [if_pos hq]; show p ≤ (pnum nx (p + 2)).2.1; omega
      · rw [if_neg hq]; show p ≤ (pnum nx (p + 2)).2.1; omega
theorem PSt_test {nx e} (hx : NXo nx e) : PSt nx (ptest nx) e :=
  ⟨hx.hn, fun _ h => ⟨ptest_le hx h, (ptest_up hx (ptest_st hx h)).1⟩, fun _ _ => ptest_lo, fun _ h => ptest_q h⟩
/-- between the parts of a clause: the model reads the text, b signs are written in all -/
noncomputable abbrev RtM (nx : Nat → Int) (e b p : Nat) (σ : Sg) : Prop :=
  ((gi σ 74 13).toInt = (e : Int)) ∧ (∀ q, q < e → (gi σ 116 q).toInt = nx q) ∧ ((gi σ 74 14).toInt = (p : Int)) ∧ ((gi σ 74 24).toInt = (b : Int)) ∧ (p ≤ e) ∧ (b ≤ 500 + p)
theorem RtM.en {nx : Nat → Int} {e b p : Nat} {σ : Sg} (h : RtM nx e b p σ) : (gi σ 74 13).toInt = (e : Int) := h.1
theorem RtM.tx {nx : Nat → Int} {e b p : Nat} {σ : Sg} (h : RtM nx e b p σ) : ∀ q, q < e → (gi σ 116 q).toInt = nx q := h.2.1
theorem RtM.at_ {nx : Nat → Int} {e b p : Nat} {σ : Sg} (h : RtM nx e b p σ) : (gi σ 74 14).toInt = (p : Int) := h.2.2.1
theorem RtM.cn {nx : Nat → Int} {e b p : Nat} {σ : Sg} (h : RtM nx e b p σ) : (gi σ 74 24).toInt = (b : Int) := h.2.2.2.1
theorem RtM.le {nx : Nat → Int} {e b p : Nat} {σ : Sg} (h : RtM nx e b p σ) : p ≤ e := h.2.2.2.2.1
theorem RtM.bb {nx : Nat → Int} {e b p : Nat} {σ : Sg} (h : RtM nx e b p σ) : b ≤ 500 + p := h.2.2.2.2.2
/-- what a reading of E leaves alone in the model -/
noncomputable def FXf (b c : Nat) (σ σ' : Sg) : Prop := FX (fun id => id = 123) (fun id k => (id = 74 ∧ (k = 14 ∨ k = 15 ∨ k = 24 ∨ k = 25 ∨ k = 26)) ∨ (id = 122 ∧ b ≤ k) ∨ (id = 121 ∧ k = c) ∨ (id = 120 ∧ k = c)) σ σ'
/-- E from place p on, by parts -/
noncomputable def pE (nx : Nat → Int) (p : Nat) : PRd := peither nx (ppart nx (ptest nx) 4) p
theorem takesE_M {nx e b p σ} {a1 : Int32} (hx : NXo nx e) (h : RtM nx e b p σ) :
    ((pE nx p).1 = true → ∃ σ', F_X12_takesE a1 σ = (1, σ') ∧ RtM nx e (b + (pE nx p).2.2.length) (pE nx p).2.1 σ' ∧ (∀ j t, (pE nx p).2.2[j]? = some t → gi σ' 122 (b + j) = encM t) ∧ (gi σ' 120 a1.toNatClampNeg).toInt = (b : Int) ∧ (gi σ' 121 a1.toNatClampNeg).toInt = ((b + (pE nx p).2.2.length : Nat) : Int) ∧ FXf b a1.toNatClampNeg σ σ')
    ∧ ((pE nx p).1 = false → ∃ σ', F_X12_takesE a1 σ = (0, σ') ∧ (gi σ' 74 14).toInt = ((pE nx p).2.1 : Int) ∧ FXf b a1.toNatClampNeg σ σ') := by
  have e100 := hx.le
  have ple := h.le
  obtain ⟨σ4, q4⟩ : ∃ σ4, σ4 = si (si (si σ 74 25 (0 : Int32)) 74 26 (0 : Int32)) 120 a1.toNatClampNeg (gi (si (si σ 74 25 (0 : Int32)) 74 26 (0 : Int32)) 74 24) := ⟨_, rfl⟩
  have E0 : F_X12_takesE a1 σ = LF_X12_takesE 300 0 a1 (1 : Int32) 0 σ4 := by
    unfold F_X12_takesE
    rw [fl_e, fl_e, fl_e, ← q4]
  have f4 : FXf b a1.toNatClampNeg σ σ4 := by
    rw [q4]
    exact FX_si (FX_si (FX_si FX_rf (Or.inr (Or.inl ⟨rfl, by decide +kernel⟩))) (Or.inr (Or.inl ⟨rfl, by decide +kernel⟩))) (Or.inr (Or.inr (Or.inr (Or.inr ⟨rfl, rfl⟩))))
  have r4 : RdM nx e b p [] [] σ4 := by
    rw [q4]
    refine ⟨?_, ?_, ?_, ?_, ?_, ?_, trivial, ?_, ple, by have := h.bb; omega, Nat.zero_le _⟩
    · rw [gi_si_ne (Or.inl (by decide +kernel)), gi_si_ne (Or.inr (by decide +kernel)), gi_si_ne (Or.inr (by decide +kernel))]; exact h.en
    · intro q hq; rw [gi_si_ne (Or.inl (by decide +kernel)), gi_si_ne (Or.inl (by decide +kernel)), gi_si_ne (Or.inl (by decide +kernel))]; exact h.tx q hq
    · rw [gi_si_ne (Or.inl (by decide +kernel)), gi_si_ne (Or.inr (by decide +kernel)), gi_si_ne (Or.inr (by decide +kernel))]; exact h.at_
    · rw [gi_si_ne (Or.inl (by decide +kernel)), gi_si_ne (Or.inr (by decide +kernel)), gi_si_ne (Or.inr (by decide +kernel))]; exact h.cn
    · intro j t ht; cases ht
    · rw [gi_si_ne (Or.inl (by decide +kernel)), gi_si_ne (Or.inr (by decide +kernel)), gi_si_eq]; rfl
    · rw [gi_si_ne (Or.inl (by decide +kernel)), gi_si_eq]; rfl
  have g4 : (gi σ4 120 a1.toNatClampNeg).toInt = (b : Int) := by
    rw [q4, gi_si_eq, gi_si_ne (Or.inr (by decide +kernel)), gi_si_ne (Or.inr (by decide +kernel))]; exact h.cn
  have k := takesEM (x1 := a1) (k0 := p) hx 110 true [] p [] σ4 300 1 r4 (by show 0 + 0 + p ≤ p; omega) (fun _ h9 => by cases h9) (by omega) (by decide +kernel) ⟨fun _ => by decide +kernel, fun _ => rfl⟩
  rw [prun_E (PSt_test hx) (fun q hq => (ptest_up hx hq).1) e100 p 110 ple (by decide +kernel)] at k
  rw [show peither nx (ppart nx (ptest nx) 4) p = pE nx p from rfl] at k
  rw [E0]
  generalize LF_X12_takesE 300 0 a1 (1 : Int32) 0 σ4 = y at k ⊢
  obtain ⟨y1, y2⟩ := y
  have fe : FXf b a1.toNatClampNeg σ y2 := FX_tr f4 k.2.2 (fun _ h => h) (fun _ _ h => Or.inr (h.elim Or.inl (fun h => Or.inr (h.elim Or.inl (fun h => Or.inr (Or.inl h))))))
  by_cases hr : (pE nx p).1 = true
  · rw [if_pos hr] at k
    obtain ⟨u1, u2, u3, u4⟩ := k.1 hr
    replace u1 : y1 = 1 := u1
    refine ⟨fun _ => ⟨y2, by rw [u1], ⟨u2.en, u2.tx, u2.at_, u2.cn, u2.le, ?_⟩, u2.cd, ?_, u3, fe⟩, fun h9 => by rw [hr] at h9; cases h9⟩
    · have h1 := u2.le
      have h2 := h.bb
      omega
    · rw [k.2.2.1 120 _ (by decide +kernel) (by rintro (⟨h9, -⟩ | ⟨h9, -⟩ | ⟨h9, -⟩) <;> exact absurd h9 (by decide +kernel))]; exact g4
  · have hr' : (pE nx p).1 = false := Bool.eq_false_iff.mpr hr
    rw [if_neg hr] at k
    obtain ⟨u1, u2⟩ := k.2.1 rfl
    replace u1 : y1 = 0 := u1
    exact ⟨fun h9 => absurd h9 hr, fun _ => ⟨y2, by rw [u1], u2, fe⟩⟩
/-! a clause, without the machine -/
noncomputable def wtx : Nat → List Int
  | 0 => [102, 97, 115, 116, 32]
  | 1 => [115, 108, 111, 119, 32]
  | 2 => [103, 97, 112, 32]
  | 3 => [116, 105, 114, 101, 32]
  | _ => [108, 111, 110, 103, 32]
noncomputable def pmatch (nx : Nat → Int) : List Int → Nat → Bool × Nat
  | [], p => (true, p)
  | c :: l, p => if nx p = c then pmatch nx l (p + 1) else (false, p)
/-- a clause: whether, up to where, word, number, its signs -/
noncomputable def pclause (nx : Nat → Int) (p : Nat) : Bool × Nat × Nat × Nat × List Tok :=
  match wrd (nx p) with
  | none => (false, p, 0, 0, [])
  | some w =>
    if (pmatch nx (wtx w) p).1 = true then
      (if (pnum nx (pmatch nx (wtx w) p).2).1 = true then
        (if 2 ≤ w then (true, (pnum nx (pmatch nx (wtx w) p).2).2.1, w, (pnum nx (pmatch nx (wtx w) p).2).2.2, [])
         else if nx (pnum nx (pmatch nx (wtx w) p).2).2.1 = 32 then
           ((pE nx ((pnum nx (pmatch nx (wtx w) p).2).2.1 + 1)).1, (pE nx ((pnum nx (pmatch nx (wtx w) p).2).2.1 + 1)).2.1, w, (pnum nx (pmatch nx (wtx w) p).2).2.2, (pE nx ((pnum nx (pmatch nx (wtx w) p).2).2.1 + 1)).2.2)
         else (false, (pnum nx (pmatch nx (wtx w) p).2).2.1, 0, 0, []))
       else (false, (pnum nx (pmatch nx (wtx w) p).2).2.1, 0, 0, []))
    else (false, (pmatch nx (wtx w) p).2, 0, 0, [])
/-- the class's word w -/
theorem wordLC {nx e c0 L} {x2 : Nat} (hx : NXo nx e) (hc : 69 ≤ c0) (hx2 : x2 < 8) : ∀ (l : List Int) n p σ (x3 : Int32) (i : Nat), RdC nx e c0 p L σ → x3.toInt = (i : Int) → i + l.length = slen x2 → l.length < n → (∀ j c, l[j]? = some c → (sby x2 (i + j)).toInt = c ∧ 0 ≤ c) →
    ((pmatch nx l p).1 = true → ∃ σ', LF_X2_readsWord c0 n x2 x3 σ = (1, σ') ∧ RdC nx e c0 (pmatch nx l p).2 L σ' ∧ FXc c0 σ σ') ∧ ((pmatch nx l p).1 = false → ∃ σ', LF_X2_readsWord c0 n x2 x3 σ = (0, σ') ∧ (gi σ' c0 11).toInt = ((pmatch nx l p).2 : Int) ∧ FXc c0 σ σ') := by
  have hs := nI_slen hx2
  intro l
  induction l with
  | nil =>
    intro n p σ x3 i h h3 hl hn _
    obtain ⟨n, rfl⟩ : ∃ k, n = k + 1 := ⟨n - 1, by have : ([] : List Int).length = 0 := rfl; omega⟩
    have hl : i + 0 = slen x2 := hl
    refine ⟨fun _ => ⟨σ, ?_, h, FXc_rf⟩, fun h9 => by cases h9⟩
    show LB_X2_readsWord_7 c0 (LF_X2_readsWord c0 n) x2 x3 σ = (1, σ)
    unfold LB_X2_readsWord_7 F_J0_length_8abf5
    rw [fb_e, if_pos (Int32.le_iff_toInt_le.mpr (by rw [hs.1]; omega))]
  | cons c l ih =>
    intro n p σ x3 i h h3 hl hn hb
    rw [List.length_cons] at hl hn
    obtain ⟨n, rfl⟩ : ∃ k, n = k + 1 := ⟨n - 1, by omega⟩
    obtain ⟨b1, b2⟩ := hb 0 c rfl
    have ec := cl_eq (x := x3) (by omega)
    have E1 : LF_X2_readsWord c0 (n + 1) x2 x3 σ = fb (F_X2_takes c0 (sby x2 i) σ) (fun r7 σ6 => (if r7 = 0 then ((0 : Int32), σ6) else fl (x3 + 1) (fun v9 => LF_X2_readsWord c0 n x2 v9 σ6))) := by
      show LB_X2_readsWord_7 c0 (LF_X2_readsWord c0 n) x2 x3 σ = _
      unfold LB_X2_readsWord_7 F_J0_length_8abf5 F_J0_charAt_5068e
      rw [fb_e, if_neg (fun h9 => by have := Int32.le_iff_toInt_le.mp h9; rw [hs.1] at this; omega), fb_e, show x3.toNatClampNeg = i from by omega]
    rw [E1]
    rw [Nat.add_zero] at b1
    by_cases q : nx p = c
    · have ep : pmatch nx (c :: l) p = pmatch nx l (p + 1) := if_pos q
      obtain ⟨t1, t2, t3⟩ := takesC_t hx hc h b1 b2 q
      rw [ep, t1, fb_e, if_neg (show ¬ (1 : Int32) = 0 by decide +kernel), fl_e]
      have t9 : (x3 + (1 : Int32)).toInt = x3.toInt + 1 := i_add (y := (1 : Int32)) (by show (_ : Int) ≤ x3.toInt + 1; omega) (by have := hs.1; have := Int32.toInt_lt (nI (slen x2)); show x3.toInt + 1 ≤ (2147483647 : Int); omega)
      have k := ih n (p + 1) _ (x3 + 1) (i + 1) t2 (by rw [t9]; omega) (by omega) (by omega) (fun j c' hj => by
        have := hb (j + 1) c' hj
        rw [show i + (j + 1) = i + 1 + j from by omega] at this
        exact this)
      refine ⟨fun h9 => ?_, fun h9 => ?_⟩
      · obtain ⟨σ', k1, k2, k3⟩ := k.1 h9
        exact ⟨σ', k1, k2, FXc_tr t3 k3⟩
      · obtain ⟨σ', k1, k2, k3⟩ := k.2 h9
        exact ⟨σ', k1, k2, FXc_tr t3 k3⟩
    · have ep : pmatch nx (c :: l) p = (false, p) := if_neg q
      rw [ep, takesC_f hx h b1 q, fb_e, if_pos rfl]
      exact ⟨fun h9 => (by cases h9), fun _ => ⟨σ, rfl, h.at_, FXc_rf⟩⟩
/-! the class's clauses, its field -/
noncomputable abbrev Cls := Nat × Nat × List Tok
noncomputable def toksOf (cl : List Cls) : List Tok := (cl.map (fun c => c.2.2)).flatten
noncomputable def lastW (w d : Nat) (cl : List Cls) : Nat := cl.foldl (fun n c => if c.1 = w then c.2.1 else n) d
theorem toksOf_ap {cl : List Cls} {c : Cls} : toksOf (cl ++ [c]) = toksOf cl ++ c.2.2 := by
  unfold toksOf
  rw [List.map_append, List.flatten_append]
  simp only [List.map_cons, List.map_nil, List.flatten_cons, List.flatten_nil, List.append_nil]
theorem lastW_ap {w d : Nat} {cl : List Cls} {c : Cls} : lastW w d (cl ++ [c]) = if c.1 = w then c.2.1 else lastW w d cl := by
  unfold lastW
  rw [List.foldl_append]
  rfl
/-- the clauses cl stand in the rows of the field c0 -/
noncomputable abbrev FdR (σ : Sg) (c0 : Nat) (cl : List Cls) : Prop :=
  ((gi σ c0 8).toInt = (cl.length : Int)) ∧ (∀ i c, cl[i]? = some c → (gi σ (c0 + 2) i).toInt = (c.1 : Int) ∧ (gi σ (c0 + 3) i).toInt = (c.2.1 : Int) ∧ (gi σ (c0 + 4) i).toInt = ((toksOf (cl.take (i + 1))).length : Int))
noncomputable abbrev FdN (σ : Sg) (c0 : Nat) (cl : List Cls) : Prop :=
  ((gi σ c0 0).toInt = (lastW 2 2 cl : Int)) ∧ ((gi σ c0 1).toInt = (lastW 3 1 cl : Int)) ∧ ((gi σ c0 2).toInt = ((if lastW 4 60 cl < 1 then 1 else lastW 4 60 cl : Nat) : Int))
noncomputable def FXy (c0 : Nat) (σ σ' : Sg) : Prop := FX (fun id => id = c0 + 1 ∨ id = c0 + 2 ∨ id = c0 + 3 ∨ id = c0 + 4) (fun id k => id = c0 ∧ (k = 0 ∨ k = 1 ∨ k = 2 ∨ k = 4 ∨ k = 8 ∨ k = 11)) σ σ'
theorem FXy_rf {c0 : Nat} {σ : Sg} : FXy c0 σ σ := FX_rf
theorem FXy_tr {c0 : Nat} {σ σ1 σ2 : Sg} (f : FXy c0 σ σ1) (g : FXy c0 σ1 σ2) : FXy c0 σ σ2 := FX_tr f g (fun _ h => h) (fun _ _ h => Or.inr h)
theorem FXy_c {c0 : Nat} {σ σ1 : Sg} (f : FXc c0 σ σ1) : FXy c0 σ σ1 := FX_tr FX_rf f (fun _ h => Or.inl h) (fun _ _ h => Or.inr ⟨h.1, by have := h.2; omega⟩)
theorem FdR_c {c0 : Nat} {σ σ1 : Sg} {cl : List Cls} (f : FXc c0 σ σ1) (h : FdR σ c0 cl) : FdR σ1 c0 cl := by
  have e : ∀ id k, id ≠ c0 + 1 → ¬ (id = c0 ∧ (k = 4 ∨ k = 11)) → gi σ1 id k = gi σ id k := fun id k a b => FX_i f a b
  refine ⟨by rw [e c0 8 (by omega) (by omega)]; exact h.1, fun i c hc => ?_⟩
  rw [e (c0 + 2) i (by omega) (by omega), e (c0 + 3) i (by omega) (by omega), e (c0 + 4) i (by omega) (by omega)]
  exact h.2 i c hc
theorem FdN_c {c0 : Nat} {σ σ1 : Sg} {cl : List Cls} (f : FXc c0 σ σ1) (h : FdN σ c0 cl) : FdN σ1 c0 cl := by
  have e : ∀ id k, id ≠ c0 + 1 → ¬ (id = c0 ∧ (k = 4 ∨ k = 11)) → gi σ1 id k = gi σ id k := fun id k a b => FX_i f a b
  exact ⟨by rw [e c0 0 (by omega) (by omega)]; exact h.1, by rw [e c0 1 (by omega) (by omega)]; exact h.2.1, by rw [e c0 2 (by omega) (by omega)]; exact h.2.2⟩
theorem RdC_num {nx e c0 p L σ} {k : Nat} {v : Int32} (hc : 69 ≤ c0) (h : RdC nx e c0 p L σ) (hk : k ≤ 2) : RdC nx e c0 p L (si σ c0 k v) := by
  refine ⟨h.t, ?_, ?_, ?_, ⟨?_, ?_⟩, h.le, h.ll⟩
  · rw [gi_si_ne (Or.inr (by omega))]; exact h.en
  · intro q hq; rw [gi_si_ne (Or.inl (by omega))]; exact h.tx q hq
  · rw [gi_si_ne (Or.inr (by omega))]; exact h.at_
  · rw [gi_si_ne (Or.inr (by omega))]; exact h.cd.1
  · intro j t ht; rw [gi_si_ne (Or.inl (by omega))]; exact h.cd.2 j t ht
theorem FdR_num {c0 : Nat} {σ : Sg} {cl : List Cls} {k : Nat} {v : Int32} (h : FdR σ c0 cl) (hk : k ≤ 2) : FdR (si σ c0 k v) c0 cl := by
  refine ⟨by rw [gi_si_ne (Or.inr (by omega))]; exact h.1, fun i c hc => ?_⟩
  rw [gi_si_ne (Or.inl (by omega)), gi_si_ne (Or.inl (by omega)), gi_si_ne (Or.inl (by omega))]
  exact h.2 i c hc
theorem keepsR {nx e c0 p cl tk σ} (hc : 69 ≤ c0) (h : RdC nx e c0 p (toksOf cl ++ tk) σ) (hR : FdR σ c0 cl) (hl : cl.length < 10) {x1 x2 : Int32} {w n : Nat} (h1 : x1.toInt = (w : Int)) (h2 : x2.toInt = (n : Int)) (m : Nat) :
    RdC nx e c0 p (toksOf (cl ++ [(w, n, tk)])) (LF_X2_keeps c0 (m + 1) x1 x2 σ) ∧ FdR (LF_X2_keeps c0 (m + 1) x1 x2 σ) c0 (cl ++ [(w, n, tk)]) ∧ (∀ k, k ≤ 2 → gi (LF_X2_keeps c0 (m + 1) x1 x2 σ) c0 k = gi σ c0 k) ∧ FXy c0 σ (LF_X2_keeps c0 (m + 1) x1 x2 σ) := by
  have a := hR.1
  have z10 : (10 : Int32).toInt = 10 := rfl
  have q : ¬ (10 : Int32) ≤ gi σ c0 8 := fun h9 => by have := Int32.le_iff_toInt_le.mp h9; omega
  have ec := cl_eq (x := gi σ c0 8) (by omega)
  have ek : (gi σ c0 8).toNatClampNeg = cl.length := by omega
  have t1 : ((gi σ c0 8) + (1 : Int32)).toInt = (gi σ c0 8).toInt + 1 := i_add (y := (1 : Int32)) (by show (_ : Int) ≤ (gi σ c0 8).toInt + 1; omega) (by show (gi σ c0 8).toInt + 1 ≤ (_ : Int); omega)
  have n2 : ∀ (τ : Sg) (j k : Nat) (v : Int32), gi (si τ (c0 + 2) j v) c0 k = gi τ c0 k := fun τ j k v => gi_si_ne (Or.inl (by omega))
  have n3 : ∀ (τ : Sg) (j k : Nat) (v : Int32), gi (si τ (c0 + 3) j v) c0 k = gi τ c0 k := fun τ j k v => gi_si_ne (Or.inl (by omega))
  have n4 : ∀ (τ : Sg) (j k : Nat) (v : Int32), gi (si τ (c0 + 4) j v) c0 k = gi τ c0 k := fun τ j k v => gi_si_ne (Or.inl (by omega))
  have E : LF_X2_keeps c0 (m + 1) x1 x2 σ = si (si (si (si σ (c0 + 2) cl.length x1) (c0 + 3) cl.length x2) (c0 + 4) cl.length (gi σ c0 4)) c0 8 ((gi σ c0 8) + (1 : Int32)) := by
    show LB_X2_keeps_40 c0 (LF_X2_keeps c0 m) x1 x2 σ = _
    unfold LB_X2_keeps_40
    rw [if_neg q]
    simp only [fl_e, n2, n3, n4, ek]
  rw [E]
  obtain ⟨σ', e'⟩ : ∃ σ', σ' = si (si (si (si σ (c0 + 2) cl.length x1) (c0 + 3) cl.length x2) (c0 + 4) cl.length (gi σ c0 4)) c0 8 ((gi σ c0 8) + (1 : Int32)) := ⟨_, rfl⟩
  rw [← e']
  have hX : ∀ id k, id ≠ c0 + 2 → id ≠ c0 + 3 → id ≠ c0 + 4 → (id ≠ c0 ∨ k ≠ 8) → gi σ' id k = gi σ id k := by
    intro id k a1 a2 a3 a4
    rw [e', gi_si_ne a4, gi_si_ne (Or.inl a3), gi_si_ne (Or.inl a2), gi_si_ne (Or.inl a1)]
  have hX2 : ∀ k, gi σ' (c0 + 2) k = if k = cl.length then x1 else gi σ (c0 + 2) k := by
    intro k
    rw [e', gi_si_ne (Or.inl (by omega)), gi_si_ne (Or.inl (by omega)), gi_si_ne (Or.inl (by omega)), gi_si]
    simp only [true_and]
  have hX3 : ∀ k, gi σ' (c0 + 3) k = if k = cl.length then x2 else gi σ (c0 + 3) k := by
    intro k
    rw [e', gi_si_ne (Or.inl (by omega)), gi_si_ne (Or.inl (by omega)), gi_si, gi_si_ne (Or.inl (by omega))]
    simp only [true_and]
  have hX4 : ∀ k, gi σ' (c0 + 4) k = if k = cl.length then gi σ c0 4 else gi σ (c0 + 4) k := by
    intro k
    rw [e', gi_si_ne (Or.inl (by omega)), gi_si, gi_si_ne (Or.inl (by omega)), gi_si_ne (Or.inl (by omega))]
    simp only [true_and]
  have h8 : gi σ' c0 8 = (gi σ c0 8) + (1 : Int32) := by rw [e', gi_si_eq]
  have tok : toksOf (cl ++ [(w, n, tk)]) = toksOf cl ++ tk := toksOf_ap
  refine ⟨⟨?_, ?_, ?_, ?_, ⟨?_, ?_⟩, h.le, ?_⟩, ⟨?_, ?_⟩, ?_, ?_⟩
  · rw [e']; exact h.t
  · rw [hX c0 10 (by omega) (by omega) (by omega) (by omega)]; exact h.en
  · intro q hq; rw [hX 50 q (by omega) (by omega) (by omega) (by omega)]; exact h.tx q hq
  · rw [hX c0 11 (by omega) (by omega) (by omega) (by omega)]; exact h.at_
  · rw [hX c0 4 (by omega) (by omega) (by omega) (by omega), tok]; exact h.cd.1
  · intro j t ht; rw [hX (c0 + 1) j (by omega) (by omega) (by omega) (by omega)]; rw [tok] at ht; exact h.cd.2 j t ht
  · rw [tok]; exact h.ll
  · rw [h8, t1, List.length_append]; show _ = ((cl.length + 1 : Nat) : Int); omega
  · intro i c hi
    rw [hX2, hX3, hX4]
    by_cases hj : i = cl.length
    · rw [if_pos hj, if_pos hj, if_pos hj]
      rw [hj, List.getElem?_append_right (Nat.le_refl _), Nat.sub_self] at hi
      have hi : some (w, n, tk) = some c := hi
      cases hi
      refine ⟨h1, h2, ?_⟩
      rw [hj, List.take_of_length_le (by rw [List.length_append]; exact Nat.le_refl _), tok]
      exact h.cd.1
    · rw [if_neg hj, if_neg hj, if_neg hj]
      have hj2 : i < cl.length := by
        have := (List.getElem?_eq_some_iff.mp hi).1
        rw [List.length_append] at this
        have : i < cl.length + 1 := this
        omega
      rw [List.getElem?_append_left hj2] at hi
      rw [List.take_append_of_le_length (by omega)]
      exact hR.2 i c hi
  · intro k hk; exact hX c0 k (by omega) (by omega) (by omega) (by omega)
  · rw [e']
    exact FX_si (FX_si (FX_si (FX_si FX_rf (Or.inl (Or.inr (Or.inl rfl)))) (Or.inl (Or.inr (Or.inr (Or.inl rfl))))) (Or.inl (Or.inr (Or.inr (Or.inr rfl))))) (Or.inr ⟨rfl, by decide +kernel⟩)
theorem keepsC {nx e c0 p cl tk σ} (hc : 69 ≤ c0) (h : RdC nx e c0 p (toksOf cl ++ tk) σ) (hR : FdR σ c0 cl) (hN : FdN σ c0 cl) (hl : cl.length < 10) {x1 x2 : Int32} {w n : Nat} (hw : w ≤ 4) (h1 : x1.toInt = (w : Int)) (h2 : x2.toInt = (n : Int)) :
    RdC nx e c0 p (toksOf (cl ++ [(w, n, tk)])) (F_X2_keeps c0 x1 x2 σ) ∧ FdR (F_X2_keeps c0 x1 x2 σ) c0 (cl ++ [(w, n, tk)]) ∧ FdN (F_X2_keeps c0 x1 x2 σ) c0 (cl ++ [(w, n, tk)]) ∧ FXy c0 σ (F_X2_keeps c0 x1 x2 σ) := by
  have z2 : (2 : Int32).toInt = 2 := rfl
  have z3 : (3 : Int32).toInt = 3 := rfl
  obtain ⟨b0, b1, b2⟩ := hN
  unfold F_X2_keeps
  by_cases w2 : w = 2
  · rw [if_pos (Int32.toInt_inj.mp (by omega)), fl_e]
    obtain ⟨k1, k2, k3, k4⟩ := keepsR hc (RdC_num (v := x2) hc h (Nat.zero_le 2)) (FdR_num hR (Nat.zero_le 2)) hl h1 h2 8
    refine ⟨k1, k2, ⟨?_, ?_, ?_⟩, FXy_tr (FX_si FX_rf (Or.inr ⟨rfl, Or.inl rfl⟩)) k4⟩
    · rw [k3 0 (by decide +kernel), gi_si_eq, lastW_ap]
      show x2.toInt = ((if w = 2 then n else _ : Nat) : Int)
      rw [if_pos w2]; exact h2
    · rw [k3 1 (by decide +kernel), gi_si_ne (Or.inr (by decide +kernel)), lastW_ap]
      show _ = ((if w = 3 then n else _ : Nat) : Int)
      rw [if_neg (by omega)]; exact b1
    · rw [k3 2 (by decide +kernel), gi_si_ne (Or.inr (by decide +kernel)), lastW_ap]
      rw [if_neg (show ¬ (w, n, tk).1 = 4 from by show ¬ w = 4; omega)]; exact b2
  · rw [if_neg (fun h9 => w2 (by rw [h9] at h1; omega))]
    by_cases w3 : w = 3
    · rw [if_pos (Int32.toInt_inj.mp (by omega)), fl_e]
      obtain ⟨k1, k2, k3, k4⟩ := keepsR hc (RdC_num (v := x2) (k := 1) hc h (by decide +kernel)) (FdR_num hR (by decide +kernel)) hl h1 h2 8
      refine ⟨k1, k2, ⟨?_, ?_, ?_⟩, FXy_tr (FX_si FX_rf (Or.inr ⟨rfl, Or.inr (Or.inl rfl)⟩)) k4⟩
      · rw [k3 0 (by decide +kernel), gi_si_ne (Or.inr (by decide +kernel)), lastW_ap]
        show _ = ((if w = 2 then n else _ : Nat) : Int)
        rw [if_neg w2]; exact b0
      · rw [k3 1 (by decide +kernel), gi_si_eq, lastW_ap]
        show x2.toInt = ((if w = 3 then n else _ : Nat) : Int)
        rw [if_pos w3]; exact h2
      · rw [k3 2 (by decide +kernel), gi_si_ne (Or.inr (by decide +kernel)), lastW_ap]
        rw [if_neg (show ¬ (w, n, tk).1 = 4 from by show ¬ w = 4; omega)]; exact b2
    · rw [if_neg (fun h9 => w3 (by rw [h9] at h1; omega))]
      by_cases w1 : w ≤ 3
      · rw [if_pos (Int32.le_iff_toInt_le.mpr (by omega))]
        obtain ⟨k1, k2, k3, k4⟩ := keepsR hc h hR hl h1 h2 8
        refine ⟨k1, k2, ⟨?_, ?_, ?_⟩, k4⟩
        · rw [k3 0 (by decide +kernel), lastW_ap]
          show _ = ((if w = 2 then n else _ : Nat) : Int)
          rw [if_neg w2]; exact b0
        · rw [k3 1 (by decide +kernel), lastW_ap]
          show _ = ((if w = 3 then n else _ : Nat) : Int)
          rw [if_neg w3]; exact b1
        · rw [k3 2 (by decide +kernel), lastW_ap]
          rw [if_neg (show ¬ (w, n, tk).1 = 4 from by show ¬ w = 4; omega)]; exact b2
      · rw [if_neg (fun h9 => by have := Int32.le_iff_toInt_le.mp h9; omega), fl_e, fl_e]
        obtain ⟨k1, k2, k3, k4⟩ := keepsR hc (RdC_num (v := jmax (1 : Int32) x2) (k := 2) hc h (by decide +kernel)) (FdR_num hR (by decide +kernel)) hl h1 h2 8
        refine ⟨k1, k2, ⟨?_, ?_, ?_⟩, FXy_tr (FX_si FX_rf (Or.inr ⟨rfl, Or.inr (Or.inr (Or.inl rfl))⟩)) k4⟩
        · rw [k3 0 (by decide +kernel), gi_si_ne (Or.inr (by decide +kernel)), lastW_ap]
          show _ = ((if w = 2 then n else _ : Nat) : Int)
          rw [if_neg w2]; exact b0
        · rw [k3 1 (by decide +kernel), gi_si_ne (Or.inr (by decide +kernel)), lastW_ap]
          show _ = ((if w = 3 then n else _ : Nat) : Int)
          rw [if_neg w3]; exact b1
        · rw [k3 2 (by decide +kernel), gi_si_eq, lastW_ap, jmax_f]
          rw [if_pos (show (w, n, tk).1 = 4 from by show w = 4; omega)]
          have z1 : (1 : Int32).toInt = 1 := rfl
          show _ = ((if n < 1 then 1 else n : Nat) : Int)
          by_cases hn : n < 1
          · rw [if_pos hn, if_neg (by omega)]; exact z1
          · rw [if_neg hn]
            by_cases hn1 : n = 1
            · rw [if_neg (by omega), z1, hn1]; rfl
            · rw [if_pos (by omega)]; exact h2
theorem pcl_n {nx p} (h : wrd (nx p) = none) : pclause nx p = (false, p, 0, 0, []) := by unfold pclause; rw [h]
theorem pcl_w {nx p w} (h : wrd (nx p) = some w) (hm : (pmatch nx (wtx w) p).1 = false) : pclause nx p = (false, (pmatch nx (wtx w) p).2, 0, 0, []) := by
  unfold pclause; rw [h]
  show (if _ then _ else _) = _
  rw [if_neg (by rw [hm]; decide)]
theorem pcl_d {nx p w} (h : wrd (nx p) = some w) (hm : (pmatch nx (wtx w) p).1 = true) (hd : (pnum nx (pmatch nx (wtx w) p).2).1 = false) : pclause nx p = (false, (pnum nx (pmatch nx (wtx w) p).2).2.1, 0, 0, []) := by
  unfold pclause; rw [h]
  show (if _ then _ else _) = _
  rw [if_pos hm, if_neg (by rw [hd]; decide)]
theorem pcl_2 {nx p w} (h : wrd (nx p) = some w) (hm : (pmatch nx (wtx w) p).1 = true) (hd : (pnum nx (pmatch nx (wtx w) p).2).1 = true) (hw : 2 ≤ w) : pclause nx p = (true, (pnum nx (pmatch nx (wtx w) p).2).2.1, w, (pnum nx (pmatch nx (wtx w) p).2).2.2, []) := by
  unfold pclause; rw [h]
  show (if _ then _ else _) = _
  rw [if_pos hm, if_pos hd, if_pos hw]
theorem pcl_b {nx p w} (h : wrd (nx p) = some w) (hm : (pmatch nx (wtx w) p).1 = true) (hd : (pnum nx (pmatch nx (wtx w) p).2).1 = true) (hw : ¬ 2 ≤ w) (hb : ¬ nx (pnum nx (pmatch nx (wtx w) p).2).2.1 = 32) : pclause nx p = (false, (pnum nx (pmatch nx (wtx w) p).2).2.1, 0, 0, []) := by
  unfold pclause; rw [h]
  show (if _ then _ else _) = _
  rw [if_pos hm, if_pos hd, if_neg hw, if_neg hb]
theorem pcl_e {nx p w} (h : wrd (nx p) = some w) (hm : (pmatch nx (wtx w) p).1 = true) (hd : (pnum nx (pmatch nx (wtx w) p).2).1 = true) (hw : ¬ 2 ≤ w) (hb : nx (pnum nx (pmatch nx (wtx w) p).2).2.1 = 32) : pclause nx p = ((pE nx ((pnum nx (pmatch nx (wtx w) p).2).2.1 + 1)).1, (pE nx ((pnum nx (pmatch nx (wtx w) p).2).2.1 + 1)).2.1, w, (pnum nx (pmatch nx (wtx w) p).2).2.2, (pE nx ((pnum nx (pmatch nx (wtx w) p).2).2.1 + 1)).2.2) := by
  unfold pclause; rw [h]
  show (if _ then _ else _) = _
  rw [if_pos hm, if_pos hd, if_neg hw, if_pos hb]
theorem wrd_lt {c : Int} {w : Nat} (h : wrd c = some w) : w ≤ 4 ∧ 0 ≤ c := by
  unfold wrd at h
  repeat' split at h
  all_goals first | (cases h; exact ⟨by decide +kernel, by omega⟩) | cases h
theorem wtx_tab : ∀ w, w < 5 → slen (w + 1) = (wtx w).length ∧ (wtx w).length ≤ 5 ∧ ∀ j, j < 5 → j < (wtx w).length → (sby (w + 1) j).toInt = (wtx w).getD j 0 ∧ 0 ≤ (wtx w).getD j 0 := by decide +kernel
theorem wordEq {c0 : Nat} {w : Nat} {σ : Sg} (h : w ≤ 4) : F_X2_readsWord c0 (oI (some w)) σ = LF_X2_readsWord c0 9 (w + 1) (0 : Int32) σ := by
  have o := oI_some (f := w) (by omega)
  unfold F_X2_readsWord F_X2_wordOf
  rw [o]
  rcases (show w = 0 ∨ w = 1 ∨ w = 2 ∨ w = 3 ∨ w = 4 by omega) with rfl | rfl | rfl | rfl | rfl
  · rw [if_pos (by decide +kernel), fb_e]
  · rw [if_neg (by decide +kernel), if_pos (by decide +kernel), fb_e]
  · rw [if_neg (by decide +kernel), if_neg (by decide +kernel), if_pos (by decide +kernel), fb_e]
  · rw [if_neg (by decide +kernel), if_neg (by decide +kernel), if_neg (by decide +kernel), if_pos (by decide +kernel), fb_e]
  · rw [if_neg (by decide +kernel), if_neg (by decide +kernel), if_neg (by decide +kernel), if_neg (by decide +kernel), fb_e]
theorem clauseC {nx e c0 p cl σ} (hx : NXo nx e) (hc : 69 ≤ c0) (h : RdC nx e c0 p (toksOf cl) σ) (hR : FdR σ c0 cl) (hN : FdN σ c0 cl) (hl : cl.length < 10) :
    ((pclause nx p).1 = true → ∃ σ', F_X2_readsClause c0 σ = (1, σ') ∧ RdC nx e c0 (pclause nx p).2.1 (toksOf (cl ++ [(pclause nx p).2.2])) σ' ∧ FdR σ' c0 (cl ++ [(pclause nx p).2.2]) ∧ FdN σ' c0 (cl ++ [(pclause nx p).2.2]) ∧ FXy c0 σ σ')
    ∧ ((pclause nx p).1 = false → ∃ σ', F_X2_readsClause c0 σ = (0, σ') ∧ (gi σ' c0 11).toInt = ((pclause nx p).2.1 : Int) ∧ FXy c0 σ σ') := by
  have g1 := amongC (a1 := 0) (g := wrd) hx h rfl (fun n hn => (ixtab n hn).2.2.2.2)
  have z0 : (0 : Int32).toInt = 0 := rfl
  have z1 : (1 : Int32).toInt = 1 := rfl
  unfold F_X2_readsClause
  rw [g1, fb_e]
  cases e1 : wrd (nx p) with
  | none =>
    rw [pcl_n e1, if_pos (show oI none < 0 by decide +kernel)]
    exact ⟨fun h9 => (by cases h9), fun _ => ⟨σ, rfl, h.at_, FXy_rf⟩⟩
  | some w =>
    obtain ⟨w4, -⟩ := wrd_lt e1
    have ow := oI_some (f := w) (by omega)
    obtain ⟨tab1, tab2, tab3⟩ := wtx_tab w (by omega)
    rw [if_neg (show ¬ oI (some w) < 0 from fun h9 => by have := Int32.lt_iff_toInt_lt.mp h9; omega), wordEq w4]
    have k := wordLC hx hc (x2 := w + 1) (by omega) (wtx w) 9 p σ 0 0 h rfl (by omega) (by omega) (fun j c hj => by
      have hj2 := (List.getElem?_eq_some_iff.mp hj).1
      have t := tab3 j (by omega) hj2
      rw [List.getD_eq_getElem?_getD, hj] at t
      rw [Nat.zero_add]
      exact t)
    by_cases hm : (pmatch nx (wtx w) p).1 = true
    · obtain ⟨σ4, m1, m2, m3⟩ := k.1 hm
      rw [m1, fb_e, if_neg (show ¬ (1 : Int32) = 0 by decide +kernel)]
      have g := numC hx hc m2
      by_cases hd : (pnum nx (pmatch nx (wtx w) p).2).1 = true
      · obtain ⟨r, σ7, d1, d2, d3, d4, d5, d6⟩ := g.1 hd
        have f7 : FXc c0 σ σ7 := FXc_tr m3 d5
        rw [d1, fb_e, if_pos (show (0 : Int32) ≤ r from Int32.le_iff_toInt_le.mpr (by omega))]
        by_cases hw : 2 ≤ w
        · have k2 := keepsC hc (tk := []) (by rw [List.append_nil]; exact d4) (FdR_c f7 hR) (FdN_c f7 hN) hl w4 ow d2
          rw [if_pos (show (1 : Int32) < oI (some w) from Int32.lt_iff_toInt_lt.mpr (by omega)), fl_e, pcl_2 e1 hm hd hw]
          exact ⟨fun _ => ⟨_, rfl, k2.1, k2.2.1, k2.2.2.1, FXy_tr (FXy_c f7) k2.2.2.2⟩, fun h9 => by cases h9⟩
        · rw [if_neg (show ¬ (1 : Int32) < oI (some w) from fun h9 => by have := Int32.lt_iff_toInt_lt.mp h9; omega)]
          by_cases hb : nx (pnum nx (pmatch nx (wtx w) p).2).2.1 = 32
          · obtain ⟨t1, t2, t3⟩ := takesC_t hx hc d4 (op := 32) rfl (by decide +kernel) hb
            rw [t1, fb_e, if_neg (show ¬ (1 : Int32) = 0 by decide +kernel)]
            have r9 := either_r0C hx hc _ _ _ t2
            rw [show peither nx (ppart nx (ptest nx) 4) ((pnum nx (pmatch nx (wtx w) p).2).2.1 + 1) = pE nx ((pnum nx (pmatch nx (wtx w) p).2).2.1 + 1) from rfl] at r9
            rw [pcl_e e1 hm hd hw hb]
            obtain ⟨y, hy⟩ : ∃ y, y = F_X2_readsEither_r0 c0 (0 : Int32) (si σ7 c0 11 ((gi σ7 c0 11) + (1 : Int32))) := ⟨_, rfl⟩
            rw [← hy] at r9 ⊢
            obtain ⟨y1, y2⟩ := y
            rw [fb_e]
            by_cases hE : (pE nx ((pnum nx (pmatch nx (wtx w) p).2).2.1 + 1)).1 = true
            · obtain ⟨u1, u2, u3, u4⟩ := r9.1 hE
              replace u1 : y1 = 1 := u1
              have f15 : FXc c0 σ y2 := FXc_tr f7 (FXc_tr t3 r9.2.2)
              have k2 := keepsC hc u2 (FdR_c f15 hR) (FdN_c f15 hN) hl w4 ow d2
              rw [if_neg (by rw [u1]; decide), fl_e]
              exact ⟨fun _ => ⟨_, rfl, k2.1, k2.2.1, k2.2.2.1, FXy_tr (FXy_c f15) k2.2.2.2⟩, fun h9 => by
                have h9 : (pE nx ((pnum nx (pmatch nx (wtx w) p).2).2.1 + 1)).1 = false := h9
                rw [hE] at h9; cases h9⟩
            · have hE' : (pE nx ((pnum nx (pmatch nx (wtx w) p).2).2.1 + 1)).1 = false := Bool.eq_false_iff.mpr hE
              obtain ⟨u1, u2⟩ := r9.2.1 hE'
              replace u1 : y1 = 0 := u1
              rw [if_pos u1]
              exact ⟨fun h9 => absurd h9 hE, fun _ => ⟨y2, rfl, u2, FXy_c (FXc_tr f7 (FXc_tr t3 r9.2.2))⟩⟩
          · rw [takesC_f hx d4 (op := 32) rfl hb, fb_e, if_pos rfl, pcl_b e1 hm hd hw hb]
            exact ⟨fun h9 => (by cases h9), fun _ => ⟨σ7, rfl, d4.at_, FXy_c f7⟩⟩
      · have hd' : (pnum nx (pmatch nx (wtx w) p).2).1 = false := Bool.eq_false_iff.mpr hd
        obtain ⟨r1, r2⟩ := g.2 hd'
        rw [r1, fb_e, if_neg (show ¬ (0 : Int32) ≤ -1 by decide +kernel), pcl_d e1 hm hd']
        refine ⟨fun h9 => (by cases h9), fun _ => ⟨σ4, rfl, ?_, FXy_c m3⟩⟩
        show (gi σ4 c0 11).toInt = ((pnum nx (pmatch nx (wtx w) p).2).2.1 : Int)
        rw [r2]; exact m2.at_
    · have hm' : (pmatch nx (wtx w) p).1 = false := Bool.eq_false_iff.mpr hm
      obtain ⟨σ4, m1, m2, m3⟩ := k.2 hm'
      rw [m1, fb_e, if_pos rfl, pcl_w e1 hm']
      exact ⟨fun h9 => (by cases h9), fun _ => ⟨σ4, rfl, m2, FXy_c m3⟩⟩
/-! the whole text, as the class reads it -/
noncomputable def ptext (nx : Nat → Int) (e : Nat) : Nat → Nat → List Cls → Bool × Nat × List Cls
  | 0, p, _ => (false, p, [])
  | k + 1, p, cl => if (pclause nx p).1 = true then (if (pclause nx p).2.1 = e then (true, e, cl ++ [(pclause nx p).2.2]) else if k = 0 then (false, (pclause nx p).2.1, []) else if nx (pclause nx p).2.1 = 59 then ptext nx e k ((pclause nx p).2.1 + 1) (cl ++ [(pclause nx p).2.2]) else (false, (pclause nx p).2.1, [])) else (false, (pclause nx p).2.1, [])
theorem ptext_s {nx e k p cl} : ptext nx e (k + 1) p cl = if (pclause nx p).1 = true then (if (pclause nx p).2.1 = e then (true, e, cl ++ [(pclause nx p).2.2]) else if k = 0 then (false, (pclause nx p).2.1, []) else if nx (pclause nx p).2.1 = 59 then ptext nx e k ((pclause nx p).2.1 + 1) (cl ++ [(pclause nx p).2.2]) else (false, (pclause nx p).2.1, [])) else (false, (pclause nx p).2.1, []) := Eq.trans rfl rfl
theorem textC {nx e c0 a1} (hx : NXo nx e) (hc : 69 ≤ c0) : ∀ k p cl σ (x3 : Int32) m, RdC nx e c0 p (toksOf cl) σ → FdR σ c0 cl → FdN σ c0 cl → cl.length + k + 1 = 10 → x3.toInt = 10 - (k : Int) → k + 1 ≤ m →
    ((ptext nx e (k + 1) p cl).1 = true → ∃ σ', LF_X2_reads c0 a1 m x3 σ = (1, σ') ∧ RdC nx e c0 e (toksOf (ptext nx e (k + 1) p cl).2.2) σ' ∧ FdR σ' c0 (ptext nx e (k + 1) p cl).2.2 ∧ FdN σ' c0 (ptext nx e (k + 1) p cl).2.2 ∧ (ptext nx e (k + 1) p cl).2.2.length ≤ 10 ∧ FXy c0 σ σ')
    ∧ ((ptext nx e (k + 1) p cl).1 = false → ∃ σ', LF_X2_reads c0 a1 m x3 σ = (0, σ') ∧ (gi σ' c0 11).toInt = ((ptext nx e (k + 1) p cl).2.1 : Int) ∧ FXy c0 σ σ') := by
  have z10 : (10 : Int32).toInt = 10 := rfl
  intro k
  induction k with
  | zero =>
    intro p cl σ x3 m h hR hN hl h3 hm
    obtain ⟨m, rfl⟩ : ∃ j, m = j + 1 := ⟨m - 1, by omega⟩
    have q := clauseC hx hc h hR hN (by omega)
    have E : LF_X2_reads c0 a1 (m + 1) x3 σ = fb (F_X2_readsClause c0 σ) (fun r3 σ2 => (if r3 = 0 then ((0 : Int32), σ2) else (if (gi σ2 c0 11) = (gi σ2 c0 10) then ((1 : Int32), σ2) else ((0 : Int32), σ2)))) := by
      show LB_X2_reads_48 c0 a1 (LF_X2_reads c0 a1 m) x3 σ = _
      unfold LB_X2_reads_48
      rw [if_pos (Int32.le_iff_toInt_le.mpr (by omega))]
    rw [E, ptext_s]
    by_cases hr : (pclause nx p).1 = true
    · obtain ⟨σ1, c1, c2, c3, c4, c5⟩ := q.1 hr
      rw [c1, fb_e, if_neg (show ¬ (1 : Int32) = 0 by decide +kernel), if_pos hr]
      by_cases hp : (pclause nx p).2.1 = e
      · rw [if_pos (show gi σ1 c0 11 = gi σ1 c0 10 from Int32.toInt_inj.mp (by rw [c2.at_, c2.en, hp])), if_pos hp]
        rw [hp] at c2
        refine ⟨fun _ => ⟨σ1, rfl, c2, c3, c4, ?_, c5⟩, fun h9 => by cases h9⟩
        show (cl ++ [(pclause nx p).2.2]).length ≤ 10
        rw [List.length_append]; show cl.length + 1 ≤ 10; omega
      · rw [if_neg (show ¬ gi σ1 c0 11 = gi σ1 c0 10 from fun h9 => hp (by have := c2.at_; rw [h9, c2.en] at this; omega)), if_neg hp, if_pos (show (0 : Nat) = 0 from rfl)]
        exact ⟨fun h9 => (by cases h9), fun _ => ⟨σ1, rfl, c2.at_, c5⟩⟩
    · obtain ⟨σ1, c1, c2, c3⟩ := q.2 (Bool.eq_false_iff.mpr hr)
      rw [c1, fb_e, if_pos rfl, if_neg hr]
      exact ⟨fun h9 => (by cases h9), fun _ => ⟨σ1, rfl, c2, c3⟩⟩
  | succ k ih =>
    intro p cl σ x3 m h hR hN hl h3 hm
    obtain ⟨m, rfl⟩ : ∃ j, m = j + 1 := ⟨m - 1, by omega⟩
    have q := clauseC hx hc h hR hN (by omega)
    have E : LF_X2_reads c0 a1 (m + 1) x3 σ = fb (F_X2_readsClause c0 σ) (fun r7 σ6 => (if r7 = 0 then ((0 : Int32), σ6) else fb (F_X2_takes c0 (59 : Int32) σ6) (fun r10 σ9 => (if r10 = 0 then (if (gi σ9 c0 11) = (gi σ9 c0 10) then ((1 : Int32), σ9) else ((0 : Int32), σ9)) else fl (x3 + 1) (fun v12 => LF_X2_reads c0 a1 m v12 σ9))))) := by
      show LB_X2_reads_48 c0 a1 (LF_X2_reads c0 a1 m) x3 σ = _
      unfold LB_X2_reads_48
      rw [if_neg (fun h9 => by have := Int32.le_iff_toInt_le.mp h9; omega)]
    rw [E, ptext_s]
    by_cases hr : (pclause nx p).1 = true
    · obtain ⟨σ1, c1, c2, c3, c4, c5⟩ := q.1 hr
      rw [c1, fb_e, if_neg (show ¬ (1 : Int32) = 0 by decide +kernel), if_pos hr]
      by_cases hp : (pclause nx p).2.1 = e
      · rw [takesC_f hx c2 (op := 59) rfl (by rw [hp, hx.hn e (Nat.le_refl _)]; decide), fb_e, if_pos rfl, if_pos (show gi σ1 c0 11 = gi σ1 c0 10 from Int32.toInt_inj.mp (by rw [c2.at_, c2.en, hp])), if_pos hp]
        rw [hp] at c2
        refine ⟨fun _ => ⟨σ1, rfl, c2, c3, c4, ?_, c5⟩, fun h9 => by cases h9⟩
        show (cl ++ [(pclause nx p).2.2]).length ≤ 10
        rw [List.length_append]; show cl.length + 1 ≤ 10; omega
      · rw [if_neg hp, if_neg (Nat.succ_ne_zero k)]
        by_cases hs : nx (pclause nx p).2.1 = 59
        · obtain ⟨t1, t2, t3⟩ := takesC_t hx hc c2 (op := 59) rfl (by decide +kernel) hs
          rw [t1, fb_e, if_neg (show ¬ (1 : Int32) = 0 by decide +kernel), fl_e, if_pos hs]
          have t9 : (x3 + (1 : Int32)).toInt = x3.toInt + 1 := i_add (y := (1 : Int32)) (by show (_ : Int) ≤ x3.toInt + 1; omega) (by show x3.toInt + 1 ≤ (_ : Int); omega)
          have g := ih ((pclause nx p).2.1 + 1) (cl ++ [(pclause nx p).2.2]) _ (x3 + 1) m t2 (FdR_c t3 c3) (FdN_c t3 c4) (by rw [List.length_append]; show cl.length + 1 + k + 1 = 10; omega) (by rw [t9]; omega) (by omega)
          refine ⟨fun h9 => ?_, fun h9 => ?_⟩
          · obtain ⟨σ', g1, g2, g3, g4, g5, g6⟩ := g.1 h9
            exact ⟨σ', g1, g2, g3, g4, g5, FXy_tr c5 (FXy_tr (FXy_c t3) g6)⟩
          · obtain ⟨σ', g1, g2, g3⟩ := g.2 h9
            exact ⟨σ', g1, g2, FXy_tr c5 (FXy_tr (FXy_c t3) g3)⟩
        · rw [takesC_f hx c2 (op := 59) rfl hs, fb_e, if_pos rfl, if_neg (show ¬ gi σ1 c0 11 = gi σ1 c0 10 from fun h9 => hp (by have := c2.at_; rw [h9, c2.en] at this; omega)), if_neg hs]
          exact ⟨fun h9 => (by cases h9), fun _ => ⟨σ1, rfl, c2.at_, c5⟩⟩
    · obtain ⟨σ1, c1, c2, c3⟩ := q.2 (Bool.eq_false_iff.mpr hr)
      rw [c1, fb_e, if_pos rfl, if_neg hr]
      exact ⟨fun h9 => (by cases h9), fun _ => ⟨σ1, rfl, c2, c3⟩⟩
/-- the signs of a text of e -/
noncomputable def txn (g : Nat → Int32) (e p : Nat) : Int := if p < e then (g p).toInt else -1
theorem NXo_txn {g : Nat → Int32} {e : Nat} (h : e ≤ 100) (hb : ∀ p, p < e → 0 ≤ (g p).toInt ∧ (g p).toInt ≤ 127) : NXo (txn g e) e := by
  refine ⟨h, fun p hp => ?_, fun p hp => ?_⟩
  · unfold txn; rw [if_neg (by omega)]
  · unfold txn; rw [if_pos hp]; exact hb p hp
noncomputable def FXg (c0 : Nat) (σ σ' : Sg) : Prop := FX (fun id => id = c0 + 1 ∨ id = c0 + 2 ∨ id = c0 + 3 ∨ id = c0 + 4) (fun id _ => id = c0) σ σ'
theorem readsC {e c0 : Nat} {σ : Sg} {a2 : Int32} (hc : 69 ≤ c0) (he : a2.toInt = (e : Int)) (h100 : e ≤ 100) (hb : ∀ p, p < e → 0 ≤ (gi σ 50 p).toInt ∧ (gi σ 50 p).toInt ≤ 127) :
    ((ptext (txn (fun p => gi σ 50 p) e) e 10 0 []).1 = true → ∃ σ', F_X2_reads c0 50 a2 σ = (1, σ') ∧ RdC (txn (fun p => gi σ 50 p) e) e c0 e (toksOf (ptext (txn (fun p => gi σ 50 p) e) e 10 0 []).2.2) σ' ∧ FdR σ' c0 (ptext (txn (fun p => gi σ 50 p) e) e 10 0 []).2.2 ∧ FdN σ' c0 (ptext (txn (fun p => gi σ 50 p) e) e 10 0 []).2.2 ∧ (ptext (txn (fun p => gi σ 50 p) e) e 10 0 []).2.2.length ≤ 10 ∧ FXg c0 σ σ')
    ∧ ((ptext (txn (fun p => gi σ 50 p) e) e 10 0 []).1 = false → ∃ σ', F_X2_reads c0 50 a2 σ = (0, σ') ∧ (gi σ' c0 11).toInt = ((ptext (txn (fun p => gi σ 50 p) e) e 10 0 []).2.1 : Int) ∧ FXg c0 σ σ') := by
  have hx := NXo_txn (g := fun p => gi σ 50 p) h100 hb
  obtain ⟨nx, en⟩ : ∃ nx, nx = txn (fun p => gi σ 50 p) e := ⟨_, rfl⟩
  rw [← en] at hx ⊢
  have z100 : (Int32.ofNat 100).toInt = 100 := rfl
  obtain ⟨σ9, e9⟩ : ∃ σ9, σ9 = si (si (sr (si (si (si (si (si σ c0 0 (2 : Int32)) c0 1 (1 : Int32)) c0 2 (60 : Int32)) c0 4 (0 : Int32)) c0 8 (0 : Int32)) c0 9 (some 50)) c0 10 (jmin a2 (Int32.ofNat 100))) c0 11 (0 : Int32) := ⟨_, rfl⟩
  have E : F_X2_reads c0 50 a2 σ = LF_X2_reads c0 50 90 (1 : Int32) σ9 := by
    unfold F_X2_reads
    simp only [fl_e]
    rw [← e9]
  have f9 : FXg c0 σ σ9 := by
    rw [e9]
    exact FX_si (FX_si (FX_sr (FX_si (FX_si (FX_si (FX_si (FX_si FX_rf (Or.inr rfl)) (Or.inr rfl)) (Or.inr rfl)) (Or.inr rfl)) (Or.inr rfl)) (Or.inr rfl)) (Or.inr rfl)) (Or.inr rfl)
  have r9 : RdC nx e c0 0 (toksOf []) σ9 := by
    rw [e9]
    refine ⟨?_, ?_, ?_, ?_, ⟨?_, ?_⟩, Nat.zero_le _, Nat.zero_le _⟩
    · rw [gr_si, gr_si, gr_sr, if_pos ⟨rfl, rfl⟩]
    · rw [gi_si_ne (Or.inr (by decide +kernel)), gi_si_eq, jmin_f, if_neg (by omega)]; exact he
    · intro q hq
      rw [gi_si_ne (Or.inl (by omega)), gi_si_ne (Or.inl (by omega)), gi_sr, gi_si_ne (Or.inl (by omega)), gi_si_ne (Or.inl (by omega)), gi_si_ne (Or.inl (by omega)), gi_si_ne (Or.inl (by omega)), gi_si_ne (Or.inl (by omega)), en]
      unfold txn; rw [if_pos hq]
    · rw [gi_si_eq]; rfl
    · rw [gi_si_ne (Or.inr (by decide +kernel)), gi_si_ne (Or.inr (by decide +kernel)), gi_sr, gi_si_ne (Or.inr (by decide +kernel)), gi_si_eq]; rfl
    · intro j t ht
      rw [show toksOf ([] : List Cls) = [] from rfl, List.getElem?_nil] at ht
      cases ht
  have R9 : FdR σ9 c0 [] := by
    refine ⟨?_, fun i c hi => ?_⟩
    · rw [e9, gi_si_ne (Or.inr (by decide +kernel)), gi_si_ne (Or.inr (by decide +kernel)), gi_sr, gi_si_eq]; rfl
    · rw [List.getElem?_nil] at hi; cases hi
  have N9 : FdN σ9 c0 [] := by
    rw [e9]
    refine ⟨?_, ?_, ?_⟩
    · rw [gi_si_ne (Or.inr (by decide +kernel)), gi_si_ne (Or.inr (by decide +kernel)), gi_sr, gi_si_ne (Or.inr (by decide +kernel)), gi_si_ne (Or.inr (by decide +kernel)), gi_si_ne (Or.inr (by decide +kernel)), gi_si_ne (Or.inr (by decide +kernel)), gi_si_eq]; rfl
    · rw [gi_si_ne (Or.inr (by decide +kernel)), gi_si_ne (Or.inr (by decide +kernel)), gi_sr, gi_si_ne (Or.inr (by decide +kernel)), gi_si_ne (Or.inr (by decide +kernel)), gi_si_ne (Or.inr (by decide +kernel)), gi_si_eq]; rfl
    · rw [gi_si_ne (Or.inr (by decide +kernel)), gi_si_ne (Or.inr (by decide +kernel)), gi_sr, gi_si_ne (Or.inr (by decide +kernel)), gi_si_ne (Or.inr (by decide +kernel)), gi_si_eq]; rfl
  have g := textC (a1 := 50) hx hc 9 0 [] σ9 (1 : Int32) 90 r9 R9 N9 rfl rfl (by decide +kernel)
  rw [E]
  have fy : ∀ {σ'}, FXy c0 σ9 σ' → FXg c0 σ σ' := fun f => FX_tr f9 f (fun _ h => h) (fun _ _ h => Or.inr h.1)
  refine ⟨fun h9 => ?_, fun h9 => ?_⟩
  · obtain ⟨σ', g1, g2, g3, g4, g5, g6⟩ := g.1 h9
    exact ⟨σ', g1, g2, g3, g4, g5, fy g6⟩
  · obtain ⟨σ', g1, g2, g3⟩ := g.2 h9
    exact ⟨σ', g1, g2, fy g3⟩
/-! the model's clauses, its text -/
noncomputable def FXt (σ σ' : Sg) : Prop := FX (fun _ => False) (fun id k => id = 74 ∧ (k = 14 ∨ k = 15)) σ σ'
theorem FXt_rf {σ : Sg} : FXt σ σ := FX_rf
theorem FXt_tr {σ σ1 σ2 : Sg} (f : FXt σ σ1) (g : FXt σ1 σ2) : FXt σ σ2 := FX_tr f g (fun _ h => h) (fun _ _ h => Or.inr h)
theorem nextT {nx e b p σ} (hx : NXo nx e) (h : RtM nx e b p σ) : ∃ r : Int32, F_X12_next σ = (r, σ) ∧ r.toInt = nx p := by
  unfold F_X12_next
  have a := h.at_
  have b := h.en
  by_cases q : (gi σ 74 13) ≤ (gi σ 74 14)
  · have q' := Int32.le_iff_toInt_le.mp q
    rw [if_pos q]
    exact ⟨_, rfl, (hx.hn p (by omega)).symm⟩
  · have q' : ¬ (gi σ 74 13).toInt ≤ (gi σ 74 14).toInt := fun h9 => q (Int32.le_iff_toInt_le.mpr h9)
    rw [if_neg q]
    have ec := cl_eq (x := gi σ 74 14) (by omega)
    exact ⟨_, rfl, by rw [show (gi σ 74 14).toNatClampNeg = p from by omega]; exact h.tx p (by omega)⟩
theorem advT {nx e b p σ} (hx : NXo nx e) (h : RtM nx e b p σ) (hp : p < e) : RtM nx e b (p + 1) (si σ 74 14 ((gi σ 74 14) + (1 : Int32))) ∧ FXt σ (si σ 74 14 ((gi σ 74 14) + (1 : Int32))) := by
  have a := h.at_
  have l := hx.le
  have t1 : ((gi σ 74 14) + (1 : Int32)).toInt = (gi σ 74 14).toInt + 1 := i_add (y := (1 : Int32)) (by show (_ : Int) ≤ (gi σ 74 14).toInt + 1; omega) (by show (gi σ 74 14).toInt + 1 ≤ (_ : Int); omega)
  have bb := h.bb
  refine ⟨⟨?_, ?_, ?_, ?_, hp, by omega⟩, FX_si FX_rf (Or.inr ⟨rfl, Or.inl rfl⟩)⟩
  · rw [gi_si_ne (Or.inr (by decide +kernel))]; exact h.en
  · intro q hq; rw [gi_si_ne (Or.inl (by decide +kernel))]; exact h.tx q hq
  · rw [gi_si_eq, t1]; omega
  · rw [gi_si_ne (Or.inr (by decide +kernel))]; exact h.cn
theorem digitT {nx e b p σ} (hx : NXo nx e) (h : RtM nx e b p σ) : F_X12_isDigit σ = (if dig (nx p) = true then 1 else 0, σ) := by
  obtain ⟨r, e1, e2⟩ := nextT hx h
  unfold F_X12_isDigit F_X12_in
  rw [e1, fb_e]
  have z1 : (48 : Int32).toInt = 48 := rfl
  have z2 : (57 : Int32).toInt = 57 := rfl
  by_cases q1 : r < (48 : Int32)
  · have q1' := Int32.lt_iff_toInt_lt.mp q1
    rw [if_pos q1, if_neg (show ¬ dig (nx p) = true from fun h9 => by have := of_decide_eq_true h9; omega), fb_e]
  · have q1' : ¬ r.toInt < (48 : Int32).toInt := fun h9 => q1 (Int32.lt_iff_toInt_lt.mpr h9)
    rw [if_neg q1]
    by_cases q2 : (57 : Int32) < r
    · have q2' := Int32.lt_iff_toInt_lt.mp q2
      rw [if_pos q2, if_neg (show ¬ dig (nx p) = true from fun h9 => by have := of_decide_eq_true h9; omega), fb_e]
    · have q2' : ¬ (57 : Int32).toInt < r.toInt := fun h9 => q2 (Int32.lt_iff_toInt_lt.mpr h9)
      rw [if_neg q2, if_pos (show dig (nx p) = true from decide_eq_true (by omega)), fb_e]
theorem takesT_t {nx e b p σ} {op : Int32} {c : Int} (hx : NXo nx e) (h : RtM nx e b p σ) (ho : op.toInt = c) (h0 : 0 ≤ c) (q : nx p = c) : F_X12_takes op σ = (1, si σ 74 14 ((gi σ 74 14) + (1 : Int32))) ∧ RtM nx e b (p + 1) (si σ 74 14 ((gi σ 74 14) + (1 : Int32))) ∧ FXt σ (si σ 74 14 ((gi σ 74 14) + (1 : Int32))) := by
  obtain ⟨r, e1, e2⟩ := nextT hx h
  refine ⟨?_, advT hx h (ltC hx q h0)⟩
  unfold F_X12_takes
  rw [e1, fb_e, if_pos (Int32.toInt_inj.mp (by rw [e2, ho, q])), fl_e]
theorem takesT_f {nx e b p σ} {op : Int32} {c : Int} (hx : NXo nx e) (h : RtM nx e b p σ) (ho : op.toInt = c) (q : ¬ nx p = c) : F_X12_takes op σ = (0, σ) := by
  obtain ⟨r, e1, e2⟩ := nextT hx h
  unfold F_X12_takes
  rw [e1, fb_e, if_neg (fun h9 => q (by rw [← e2, h9, ho]))]
theorem digsT {nx e b p σ} {v : Int32} (h : RtM nx e b p σ) : RtM nx e b p (si σ 74 15 v) ∧ FXt σ (si σ 74 15 v) := by
  refine ⟨⟨?_, ?_, ?_, ?_, h.le, h.bb⟩, FX_si FX_rf (Or.inr ⟨rfl, by decide +kernel⟩)⟩
  · rw [gi_si_ne (Or.inr (by decide +kernel))]; exact h.en
  · intro q hq; rw [gi_si_ne (Or.inl (by decide +kernel))]; exact h.tx q hq
  · rw [gi_si_ne (Or.inr (by decide +kernel))]; exact h.at_
  · rw [gi_si_ne (Or.inr (by decide +kernel))]; exact h.cn
theorem digT1 {nx e b p σ} {d : Nat} (hx : NXo nx e) (h : RtM nx e b p σ) (hd : dig (nx p) = true) (h15 : (gi σ 74 15).toInt = (d : Int)) (hd9 : d ≤ 9) (n : Nat) (x1 : Int32) (hx1 : ¬ (2 : Int32) ≤ x1) :
    ∃ σ', LF_X12_takesNumber (n + 1) x1 σ = LF_X12_takesNumber n (x1 + 1) σ' ∧ RtM nx e b (p + 1) σ' ∧ (gi σ' 74 15).toInt = ((10 * d + (nx p - 48).toNat : Nat) : Int) ∧ FXt σ σ' := by
  have b0 := of_decide_eq_true hd
  have hp : p < e := ltC hx rfl (by omega)
  obtain ⟨r, s1, s2⟩ := nextT hx h
  have z48 : (48 : Int32).toInt = 48 := rfl
  have m1 : ((10 : Int32) * (gi σ 74 15)).toInt = 10 * (gi σ 74 15).toInt := i_mull rfl (by omega) (by omega)
  have m2 : (((10 : Int32) * (gi σ 74 15)) + r).toInt = ((10 : Int32) * (gi σ 74 15)).toInt + r.toInt := i_add (by omega) (by omega)
  have m3 : ((((10 : Int32) * (gi σ 74 15)) + r) - (48 : Int32)).toInt = (((10 : Int32) * (gi σ 74 15)) + r).toInt - 48 := i_sub (y := (48 : Int32)) (by show (_ : Int) ≤ (((10 : Int32) * (gi σ 74 15)) + r).toInt - 48; omega) (by show (((10 : Int32) * (gi σ 74 15)) + r).toInt - 48 ≤ (_ : Int); omega)
  obtain ⟨a1, a2⟩ := digsT (v := (((10 : Int32) * (gi σ 74 15)) + r) - (48 : Int32)) h
  obtain ⟨c1, c2⟩ := advT hx a1 hp
  refine ⟨_, ?_, c1, ?_, FXt_tr a2 c2⟩
  · show LB_X12_takesNumber_16 (LF_X12_takesNumber n) x1 σ = _
    unfold LB_X12_takesNumber_16
    rw [if_neg hx1, digitT hx h, if_pos hd, fb_e, if_neg (show ¬ (1 : Int32) = 0 by decide +kernel), s1, fb_e, fl_e, fl_e, fl_e]
  · rw [gi_si_ne (Or.inr (by decide +kernel)), gi_si_eq, m3, m2, m1, h15, s2]
    omega
theorem numT {nx e b p σ} (hx : NXo nx e) (h : RtM nx e b p σ) :
    ((pnum nx p).1 = true → ∃ σ', F_X12_takesNumber σ = (1, σ') ∧ (gi σ' 74 15).toInt = ((pnum nx p).2.2 : Int) ∧ (pnum nx p).2.2 ≤ 99 ∧ RtM nx e b (pnum nx p).2.1 σ' ∧ FXt σ σ' ∧ p + 1 ≤ (pnum nx p).2.1) ∧ ((pnum nx p).1 = false → F_X12_takesNumber σ = (0, σ) ∧ (pnum nx p).2.1 = p) := by
  unfold F_X12_takesNumber
  rw [digitT hx h, fb_e]
  by_cases d0 : dig (nx p) = true
  · have b0 := of_decide_eq_true d0
    rw [if_pos d0, if_neg (show ¬ (1 : Int32) = 0 by decide +kernel), fl_e]
    obtain ⟨a1, a2⟩ := digsT (v := 0) h
    obtain ⟨σ1, e1, c1, c2, c3⟩ := digT1 (d := 0) hx a1 d0 (by rw [gi_si_eq]; rfl) (by decide +kernel) 8 0 (by decide +kernel)
    rw [e1, show (0 : Int32) + 1 = 1 from by decide +kernel]
    by_cases d1 : dig (nx (p + 1)) = true
    · have b1 := of_decide_eq_true d1
      have ep : pnum nx p = (true, p + 2, 10 * (nx p - 48).toNat + (nx (p + 1) - 48).toNat) := by unfold pnum; rw [if_pos d0, if_pos d1]
      obtain ⟨σ2, e2, g1, g2, g3⟩ := digT1 (d := 10 * 0 + (nx p - 48).toNat) hx c1 d1 c2 (by omega) 7 1 (by decide +kernel)
      rw [e2, show (1 : Int32) + 1 = 2 from by decide +kernel, ep]
      have e3 : LF_X12_takesNumber 7 2 σ2 = (1, σ2) := by
        show LB_X12_takesNumber_16 (LF_X12_takesNumber 6) 2 σ2 = _
        unfold LB_X12_takesNumber_16
        rw [if_pos (by decide +kernel)]
      refine ⟨fun _ => ⟨σ2, e3, ?_, ?_, g1, FXt_tr a2 (FXt_tr c3 g3), by show p + 1 ≤ p + 2; omega⟩, fun h9 => by cases h9⟩
      · rw [g2]; show ((10 * (10 * 0 + (nx p - 48).toNat) + (nx (p + 1) - 48).toNat : Nat) : Int) = ((10 * (nx p - 48).toNat + (nx (p + 1) - 48).toNat : Nat) : Int); omega
      · show 10 * (nx p - 48).toNat + (nx (p + 1) - 48).toNat ≤ 99; omega
    · have ep : pnum nx p = (true, p + 1, (nx p - 48).toNat) := by unfold pnum; rw [if_pos d0, if_neg d1]
      have e3 : LF_X12_takesNumber 8 1 σ1 = (1, σ1) := by
        show LB_X12_takesNumber_16 (LF_X12_takesNumber 7) 1 σ1 = _
        unfold LB_X12_takesNumber_16
        rw [if_neg (by decide +kernel), digitT hx c1, if_neg d1, fb_e, if_pos rfl]
      rw [ep]
      refine ⟨fun _ => ⟨σ1, e3, ?_, ?_, c1, FXt_tr a2 c3, Nat.le_refl _⟩, fun h9 => by cases h9⟩
      · rw [c2]; show ((10 * 0 + (nx p - 48).toNat : Nat) : Int) = (((nx p - 48).toNat : Nat) : Int); omega
      · show (nx p - 48).toNat ≤ 99; omega
  · have ep : pnum nx p = (false, p, 0) := by unfold pnum; rw [if_neg d0]
    rw [ep, if_neg d0, if_pos rfl]
    exact ⟨fun h9 => (by cases h9), fun _ => ⟨rfl, rfl⟩⟩
noncomputable def ltrs : List Int := [102, 97, 115, 116, 115, 108, 111, 119, 103, 97, 112, 116, 105, 114, 101, 108, 111, 110, 103]
/-- the model's letters -/
noncomputable def LTM (σ : Sg) : Prop := ∀ j c, ltrs[j]? = some c → (gi σ 127 j).toInt = c
theorem ltrs_ge : ∀ j, j < 19 → 0 ≤ ltrs.getD j 0 := by decide +kernel
theorem ltrs_0 {j : Nat} {c : Int} (h : ltrs[j]? = some c) : 0 ≤ c := by
  have hj : j < 19 := (List.getElem?_eq_some_iff.mp h).1
  have := ltrs_ge j hj
  rw [List.getD_eq_getElem?_getD, h] at this
  exact this
theorem LTM_eq {σ σ' : Sg} (h : ∀ k, gi σ' 127 k = gi σ 127 k) (q : LTM σ) : LTM σ' := fun j c hj => by rw [h]; exact q j c hj
theorem wordT {nx e b} {x1 x2 : Int32} {a z : Nat} (hx : NXo nx e) (h1 : x1.toInt = (a : Int)) (h2 : x2.toInt = (z : Int)) (ha : a ≤ 100) (hz : z ≤ 100) : ∀ (l : List Int) n p σ (x3 : Int32) (i : Nat), RtM nx e b p σ → LTM σ → x3.toInt = (i : Int) → i + l.length = z → l.length < n → (∀ j c, l[j]? = some c → ltrs[a + i + j]? = some c) →
    ((pmatch nx (l ++ [32]) p).1 = true → ∃ σ', LF_X12_takesWord n x1 x2 x3 σ = (1, σ') ∧ RtM nx e b (pmatch nx (l ++ [32]) p).2 σ' ∧ FXt σ σ') ∧ ((pmatch nx (l ++ [32]) p).1 = false → ∃ σ', LF_X12_takesWord n x1 x2 x3 σ = (0, σ') ∧ (gi σ' 74 14).toInt = ((pmatch nx (l ++ [32]) p).2 : Int) ∧ FXt σ σ') := by
  intro l
  induction l with
  | nil =>
    intro n p σ x3 i h hL h3 hl hn _
    obtain ⟨n, rfl⟩ : ∃ k, n = k + 1 := ⟨n - 1, by have : ([] : List Int).length = 0 := rfl; omega⟩
    have hl : i + 0 = z := hl
    have E : LF_X12_takesWord (n + 1) x1 x2 x3 σ = F_X12_takes (32 : Int32) σ := by
      show LB_X12_takesWord_2 (LF_X12_takesWord n) x1 x2 x3 σ = _
      unfold LB_X12_takesWord_2
      rw [if_pos (Int32.le_iff_toInt_le.mpr (by omega))]
      rfl
    rw [E]
    show ((if nx p = 32 then pmatch nx [] (p + 1) else (false, p)).1 = true → _) ∧ _
    by_cases q : nx p = 32
    · obtain ⟨t1, t2, t3⟩ := takesT_t hx h (op := 32) rfl (by decide +kernel) q
      have ep : pmatch nx ([] ++ [32]) p = (true, p + 1) := if_pos q
      rw [t1, ep]
      exact ⟨fun _ => ⟨_, rfl, t2, t3⟩, fun h9 => by cases h9⟩
    · have ep : pmatch nx ([] ++ [32]) p = (false, p) := if_neg q
      rw [takesT_f hx h (op := 32) rfl q, ep, if_neg q]
      exact ⟨fun h9 => (by cases h9), fun _ => ⟨σ, rfl, h.at_, FXt_rf⟩⟩
  | cons c l ih =>
    intro n p σ x3 i h hL h3 hl hn hb
    rw [List.length_cons] at hl hn
    obtain ⟨n, rfl⟩ : ∃ k, n = k + 1 := ⟨n - 1, by omega⟩
    have b1 : ltrs[a + i]? = some c := hb 0 c rfl
    have b2 := hL _ _ b1
    have s1 : (x1 + x3).toInt = x1.toInt + x3.toInt := i_add (by omega) (by omega)
    have ec := cl_eq (x := x1 + x3) (by omega)
    have E : LF_X12_takesWord (n + 1) x1 x2 x3 σ = fb (F_X12_takes (gi σ 127 (a + i)) σ) (fun r6 σ5 => (if r6 = 0 then ((0 : Int32), σ5) else fl (x3 + 1) (fun v8 => LF_X12_takesWord n x1 x2 v8 σ5))) := by
      show LB_X12_takesWord_2 (LF_X12_takesWord n) x1 x2 x3 σ = _
      unfold LB_X12_takesWord_2
      rw [if_neg (fun h9 => by have := Int32.le_iff_toInt_le.mp h9; omega), show (x1 + x3).toNatClampNeg = a + i from by omega]
    rw [E]
    by_cases q : nx p = c
    · have ep : pmatch nx (c :: l ++ [32]) p = pmatch nx (l ++ [32]) (p + 1) := if_pos q
      obtain ⟨t1, t2, t3⟩ := takesT_t hx h b2 (ltrs_0 b1) q
      rw [ep, t1, fb_e, if_neg (show ¬ (1 : Int32) = 0 by decide +kernel), fl_e]
      have t9 : (x3 + (1 : Int32)).toInt = x3.toInt + 1 := i_add (y := (1 : Int32)) (by show (_ : Int) ≤ x3.toInt + 1; omega) (by show x3.toInt + 1 ≤ (_ : Int); omega)
      have k := ih n (p + 1) _ (x3 + 1) (i + 1) t2 (LTM_eq (fun k => gi_si_ne (Or.inl (by decide +kernel))) hL) (by rw [t9]; omega) (by omega) (by omega) (fun j c' hj => by
        have := hb (j + 1) c' hj
        rw [show a + i + (j + 1) = a + (i + 1) + j from by omega] at this
        exact this)
      refine ⟨fun h9 => ?_, fun h9 => ?_⟩
      · obtain ⟨σ', k1, k2, k3⟩ := k.1 h9
        exact ⟨σ', k1, k2, FXt_tr t3 k3⟩
      · obtain ⟨σ', k1, k2, k3⟩ := k.2 h9
        exact ⟨σ', k1, k2, FXt_tr t3 k3⟩
    · have ep : pmatch nx (c :: l ++ [32]) p = (false, p) := if_neg q
      rw [ep, takesT_f hx h b2 q, fb_e, if_pos rfl]
      exact ⟨fun h9 => (by cases h9), fun _ => ⟨σ, rfl, h.at_, FXt_rf⟩⟩
/-- what a clause c leaves alone in the model -/
noncomputable def FXk (b c : Nat) (σ σ' : Sg) : Prop := FX (fun id => id = 123) (fun id k => (id = 74 ∧ (k = 14 ∨ k = 15 ∨ k = 24 ∨ k = 25 ∨ k = 26)) ∨ (id = 122 ∧ b ≤ k) ∨ ((id = 118 ∨ id = 119 ∨ id = 120 ∨ id = 121) ∧ k = c)) σ σ'
theorem FXk_tr {b c : Nat} {σ σ1 σ2 : Sg} (f : FXk b c σ σ1) (g : FXk b c σ1 σ2) : FXk b c σ σ2 := FX_tr f g (fun _ h => h) (fun _ _ h => Or.inr h)
theorem FXk_t {b c : Nat} {σ σ1 : Sg} (f : FXt σ σ1) : FXk b c σ σ1 := FX_tr FX_rf f (fun _ h => h.elim) (fun _ _ h => Or.inr (Or.inl ⟨h.1, h.2.elim Or.inl (fun h => Or.inr (Or.inl h))⟩))
theorem FXk_f {b c : Nat} {σ σ1 : Sg} (f : FXf b c σ σ1) : FXk b c σ σ1 := FX_tr FX_rf f (fun _ h => h) (fun _ _ h => Or.inr (h.elim Or.inl (fun h => h.elim (fun h => Or.inr (Or.inl h)) (fun h => h.elim (fun h => Or.inr (Or.inr ⟨Or.inr (Or.inr (Or.inr h.1)), h.2⟩)) (fun h => Or.inr (Or.inr ⟨Or.inr (Or.inr (Or.inl h.1)), h.2⟩))))))
theorem RtM_row {nx e b p σ} {a k : Nat} {v : Int32} (ha : a ≠ 74 ∧ a ≠ 116) (h : RtM nx e b p σ) : RtM nx e b p (si σ a k v) := by
  refine ⟨?_, ?_, ?_, ?_, h.le, h.bb⟩
  · rw [gi_si_ne (Or.inl (Ne.symm ha.1))]; exact h.en
  · intro q hq; rw [gi_si_ne (Or.inl (Ne.symm ha.2))]; exact h.tx q hq
  · rw [gi_si_ne (Or.inl (Ne.symm ha.1))]; exact h.at_
  · rw [gi_si_ne (Or.inl (Ne.symm ha.1))]; exact h.cn
theorem headM {nx e b p σ} {a1 : Int32} (hx : NXo nx e) (h : RtM nx e b p σ) (hL : LTM σ) :
    (wrd (nx p) = none → ∃ σ', F_X12_takesHead a1 σ = (0, σ') ∧ (gi σ' 74 14).toInt = (p : Int) ∧ FXk b a1.toNatClampNeg σ σ')
    ∧ (∀ w, wrd (nx p) = some w → ((pmatch nx (wtx w) p).1 = true → ∃ σ', F_X12_takesHead a1 σ = (1, σ') ∧ RtM nx e b (pmatch nx (wtx w) p).2 σ' ∧ (gi σ' 118 a1.toNatClampNeg).toInt = (w : Int) ∧ FXk b a1.toNatClampNeg σ σ') ∧ ((pmatch nx (wtx w) p).1 = false → ∃ σ', F_X12_takesHead a1 σ = (0, σ') ∧ (gi σ' 74 14).toInt = ((pmatch nx (wtx w) p).2 : Int) ∧ FXk b a1.toNatClampNeg σ σ')) := by
  obtain ⟨r, e1, e2⟩ := nextT hx h
  -- one head: the word's number is noted, then its letters
  have one : ∀ (v x1 x2 : Int32) (a z w : Nat) (l : List Int), x1.toInt = (a : Int) → x2.toInt = (z : Int) → a ≤ 100 → z ≤ 100 → l.length = z → z < 9 → (∀ j c, l[j]? = some c → ltrs[a + j]? = some c) → v.toInt = (w : Int) → ∀ q, q = pmatch nx (l ++ [32]) p →
      (q.1 = true → ∃ σ', fb (F_X12_takesWord x1 x2 (si σ 118 a1.toNatClampNeg v)) (fun r σ => (r, σ)) = ((1 : Int32), σ') ∧ RtM nx e b q.2 σ' ∧ (gi σ' 118 a1.toNatClampNeg).toInt = (w : Int) ∧ FXk b a1.toNatClampNeg σ σ')
      ∧ (q.1 = false → ∃ σ', fb (F_X12_takesWord x1 x2 (si σ 118 a1.toNatClampNeg v)) (fun r σ => (r, σ)) = ((0 : Int32), σ') ∧ (gi σ' 74 14).toInt = (q.2 : Int) ∧ FXk b a1.toNatClampNeg σ σ') := by
    intro v x1 x2 a z w l h1 h2 h3 h4 h5 h6 h7 h8 q hq
    have k := wordT hx h1 h2 h3 h4 l 9 p (si σ 118 a1.toNatClampNeg v) (0 : Int32) 0 (RtM_row ⟨by decide +kernel, by decide +kernel⟩ h) (LTM_eq (fun k => gi_si_ne (Or.inl (by decide +kernel))) hL) rfl (by omega) (by omega) (fun j c hj => by rw [Nat.add_zero]; exact h7 j c hj)
    rw [← hq] at k
    have f0 : FXk b a1.toNatClampNeg σ (si σ 118 a1.toNatClampNeg v) := FX_si FX_rf (Or.inr (Or.inr (Or.inr ⟨Or.inl rfl, rfl⟩)))
    unfold F_X12_takesWord
    refine ⟨fun h9 => ?_, fun h9 => ?_⟩
    · obtain ⟨σ', k1, k2, k3⟩ := k.1 h9
      refine ⟨σ', by rw [k1, fb_e], k2, ?_, FXk_tr f0 (FXk_t k3)⟩
      rw [FX_i k3 (fun h => h) (fun h => absurd h.1 (by decide +kernel)), gi_si_eq]; exact h8
    · obtain ⟨σ', k1, k2, k3⟩ := k.2 h9
      exact ⟨σ', by rw [k1, fb_e], k2, FXk_tr f0 (FXk_t k3)⟩
  unfold F_X12_takesHead
  rw [e1, fb_e, e2]
  refine ⟨fun hw => ?_, fun w hw => ?_⟩
  · unfold wrd at hw
    have c1 : ¬ nx p = 102 := fun h9 => by rw [if_pos h9] at hw; cases hw
    rw [if_neg c1] at hw
    have c2 : ¬ nx p = 115 := fun h9 => by rw [if_pos h9] at hw; cases hw
    rw [if_neg c2] at hw
    have c3 : ¬ nx p = 103 := fun h9 => by rw [if_pos h9] at hw; cases hw
    rw [if_neg c3] at hw
    have c4 : ¬ nx p = 116 := fun h9 => by rw [if_pos h9] at hw; cases hw
    rw [if_neg c4] at hw
    have c5 : ¬ nx p = 108 := fun h9 => by rw [if_pos h9] at hw; cases hw
    rw [if_neg c1, if_neg c3, if_neg c2, if_neg c4, fl_e]
    have ep : pmatch nx ([108, 111, 110, 103] ++ [32]) p = (false, p) := if_neg c5
    obtain ⟨σ', k1, k2, k3⟩ := (one 4 15 4 15 4 4 [108, 111, 110, 103] rfl rfl (by decide +kernel) (by decide +kernel) rfl (by decide +kernel) (by intro j c hj; match j, hj with | 0, hj => exact hj | 1, hj => exact hj | 2, hj => exact hj | 3, hj => exact hj) rfl _ rfl).2 (by rw [ep])
    rw [ep] at k2
    exact ⟨σ', k1, k2, k3⟩
  · unfold wrd at hw
    by_cases c1 : nx p = 102
    · rw [if_pos c1] at hw; cases hw
      rw [if_pos c1, fl_e]
      exact one 0 0 4 0 4 0 [102, 97, 115, 116] rfl rfl (by decide +kernel) (by decide +kernel) rfl (by decide +kernel) (by intro j c hj; match j, hj with | 0, hj => exact hj | 1, hj => exact hj | 2, hj => exact hj | 3, hj => exact hj) rfl _ rfl
    rw [if_neg c1] at hw
    by_cases c2 : nx p = 115
    · rw [if_pos c2] at hw; cases hw
      rw [if_neg c1, if_neg (by omega), if_pos c2, fl_e]
      exact one 1 4 4 4 4 1 [115, 108, 111, 119] rfl rfl (by decide +kernel) (by decide +kernel) rfl (by decide +kernel) (by intro j c hj; match j, hj with | 0, hj => exact hj | 1, hj => exact hj | 2, hj => exact hj | 3, hj => exact hj) rfl _ rfl
    rw [if_neg c2] at hw
    by_cases c3 : nx p = 103
    · rw [if_pos c3] at hw; cases hw
      rw [if_neg c1, if_pos c3, fl_e]
      exact one 2 8 3 8 3 2 [103, 97, 112] rfl rfl (by decide +kernel) (by decide +kernel) rfl (by decide +kernel) (by intro j c hj; match j, hj with | 0, hj => exact hj | 1, hj => exact hj | 2, hj => exact hj) rfl _ rfl
    rw [if_neg c3] at hw
    by_cases c4 : nx p = 116
    · rw [if_pos c4] at hw; cases hw
      rw [if_neg c1, if_neg c3, if_neg c2, if_pos c4, fl_e]
      exact one 3 11 4 11 4 3 [116, 105, 114, 101] rfl rfl (by decide +kernel) (by decide +kernel) rfl (by decide +kernel) (by intro j c hj; match j, hj with | 0, hj => exact hj | 1, hj => exact hj | 2, hj => exact hj | 3, hj => exact hj) rfl _ rfl
    rw [if_neg c4] at hw
    by_cases c5 : nx p = 108
    · rw [if_pos c5] at hw; cases hw
      rw [if_neg c1, if_neg c3, if_neg c2, if_neg c4, fl_e]
      exact one 4 15 4 15 4 4 [108, 111, 110, 103] rfl rfl (by decide +kernel) (by decide +kernel) rfl (by decide +kernel) (by intro j c hj; match j, hj with | 0, hj => exact hj | 1, hj => exact hj | 2, hj => exact hj | 3, hj => exact hj) rfl _ rfl
    rw [if_neg c5] at hw; cases hw
/-- the clause c, as it stands in the model's rows -/
noncomputable abbrev ClM (σ : Sg) (c : Nat) (k : Cls) (lo : Nat) : Prop :=
  ((gi σ 118 c).toInt = (k.1 : Int)) ∧ ((gi σ 119 c).toInt = (k.2.1 : Int)) ∧ (k.1 ≤ 1 → (gi σ 120 c).toInt = (lo : Int) ∧ (gi σ 121 c).toInt = ((lo + k.2.2.length : Nat) : Int)) ∧ (∀ j t, k.2.2[j]? = some t → gi σ 122 (lo + j) = encM t)
theorem clauseM {nx e b p σ} {a1 : Int32} (hx : NXo nx e) (h : RtM nx e b p σ) (hL : LTM σ) :
    ((pclause nx p).1 = true → ∃ σ', F_X12_takesClause a1 σ = (1, σ') ∧ RtM nx e (b + (pclause nx p).2.2.2.2.length) (pclause nx p).2.1 σ' ∧ ClM σ' a1.toNatClampNeg (pclause nx p).2.2 b ∧ FXk b a1.toNatClampNeg σ σ')
    ∧ ((pclause nx p).1 = false → ∃ σ', F_X12_takesClause a1 σ = (0, σ') ∧ (gi σ' 74 14).toInt = ((pclause nx p).2.1 : Int) ∧ FXk b a1.toNatClampNeg σ σ') := by
  have q := headM (a1 := a1) hx h hL
  unfold F_X12_takesClause
  cases e1 : wrd (nx p) with
  | none =>
    obtain ⟨σ1, h1, h2, h3⟩ := q.1 e1
    rw [h1, fb_e, if_pos rfl, pcl_n e1]
    exact ⟨fun h9 => (by cases h9), fun _ => ⟨σ1, rfl, h2, h3⟩⟩
  | some w =>
    obtain ⟨w4, -⟩ := wrd_lt e1
    by_cases hm : (pmatch nx (wtx w) p).1 = true
    · obtain ⟨σ1, h1, h2, h3, h4⟩ := (q.2 w e1).1 hm
      rw [h1, fb_e, if_neg (show ¬ (1 : Int32) = 0 by decide +kernel)]
      have g := numT hx h2
      by_cases hd : (pnum nx (pmatch nx (wtx w) p).2).1 = true
      · obtain ⟨σ4, d1, d2, d3, d4, d5, d6⟩ := g.1 hd
        rw [d1, fb_e, if_neg (show ¬ (1 : Int32) = 0 by decide +kernel), fl_e]
        obtain ⟨σ8, e8⟩ : ∃ σ8, σ8 = si σ4 119 a1.toNatClampNeg (gi σ4 74 15) := ⟨_, rfl⟩
        rw [← e8]
        have r8 : RtM nx e b (pnum nx (pmatch nx (wtx w) p).2).2.1 σ8 := by rw [e8]; exact RtM_row ⟨by decide +kernel, by decide +kernel⟩ d4
        have f8 : FXk b a1.toNatClampNeg σ σ8 := by
          rw [e8]
          exact FXk_tr h4 (FXk_tr (FXk_t d5) (FX_si FX_rf (Or.inr (Or.inr (Or.inr ⟨Or.inr (Or.inl rfl), rfl⟩)))))
        have w8 : (gi σ8 118 a1.toNatClampNeg).toInt = (w : Int) := by
          rw [e8, gi_si_ne (Or.inl (by decide +kernel)), FX_i d5 (fun h => h) (fun h => absurd h.1 (by decide +kernel))]; exact h3
        have n8 : (gi σ8 119 a1.toNatClampNeg).toInt = ((pnum nx (pmatch nx (wtx w) p).2).2.2 : Int) := by rw [e8, gi_si_eq]; exact d2
        have z2 : (2 : Int32).toInt = 2 := rfl
        by_cases hw : 2 ≤ w
        · rw [if_pos (Int32.le_iff_toInt_le.mpr (by omega)), pcl_2 e1 hm hd hw]
          refine ⟨fun _ => ⟨σ8, rfl, r8, ⟨w8, n8, fun h9 => absurd h9 (by show ¬ w ≤ 1; omega), fun j t ht => ?_⟩, f8⟩, fun h9 => by cases h9⟩
          have ht : ([] : List Tok)[j]? = some t := ht
          rw [List.getElem?_nil] at ht; cases ht
        · rw [if_neg (fun h9 => by have := Int32.le_iff_toInt_le.mp h9; omega)]
          by_cases hb : nx (pnum nx (pmatch nx (wtx w) p).2).2.1 = 32
          · obtain ⟨t1, t2, t3⟩ := takesT_t hx r8 (op := 32) rfl (by decide +kernel) hb
            rw [t1, fb_e, if_neg (show ¬ (1 : Int32) = 0 by decide +kernel), pcl_e e1 hm hd hw hb]
            have k := takesE_M (a1 := a1) hx t2
            by_cases hE : (pE nx ((pnum nx (pmatch nx (wtx w) p).2).2.1 + 1)).1 = true
            · obtain ⟨σ', k1, k2, k3, k4, k5, k6⟩ := k.1 hE
              rw [k1, fb_e, if_neg (show ¬ (1 : Int32) = 0 by decide +kernel)]
              have fx : FXk b a1.toNatClampNeg σ8 σ' := FXk_tr (FXk_t t3) (FXk_f k6)
              have n9 : ∀ id, id = 118 ∨ id = 119 → ∀ k, gi σ' id k = gi σ8 id k := fun id hid k => by
                rw [FX_i k6 (by show ¬ id = 123; omega) (by rintro (⟨h9, -⟩ | ⟨h9, -⟩ | ⟨h9, -⟩ | ⟨h9, -⟩) <;> omega), gi_si_ne (Or.inl (by omega))]
              exact ⟨fun _ => ⟨σ', rfl, k2, ⟨by rw [n9 118 (Or.inl rfl)]; exact w8, by rw [n9 119 (Or.inr rfl)]; exact n8, fun _ => ⟨k4, k5⟩, k3⟩, FXk_tr f8 fx⟩, fun h9 => by
                have h9 : (pE nx ((pnum nx (pmatch nx (wtx w) p).2).2.1 + 1)).1 = false := h9
                rw [hE] at h9; cases h9⟩
            · obtain ⟨σ', k1, k2, k3⟩ := k.2 (Bool.eq_false_iff.mpr hE)
              rw [k1, fb_e, if_pos rfl]
              exact ⟨fun h9 => absurd h9 hE, fun _ => ⟨σ', rfl, k2, FXk_tr f8 (FXk_tr (FXk_t t3) (FXk_f k3))⟩⟩
          · rw [takesT_f hx r8 (op := 32) rfl hb, fb_e, if_pos rfl, pcl_b e1 hm hd hw hb]
            exact ⟨fun h9 => (by cases h9), fun _ => ⟨σ8, rfl, r8.at_, f8⟩⟩
      · have hd' : (pnum nx (pmatch nx (wtx w) p).2).1 = false := Bool.eq_false_iff.mpr hd
        obtain ⟨r1, r2⟩ := g.2 hd'
        rw [r1, fb_e, if_pos rfl, pcl_d e1 hm hd']
        refine ⟨fun h9 => (by cases h9), fun _ => ⟨σ1, rfl, ?_, h4⟩⟩
        show (gi σ1 74 14).toInt = ((pnum nx (pmatch nx (wtx w) p).2).2.1 : Int)
        rw [r2]; exact h2.at_
    · have hm' : (pmatch nx (wtx w) p).1 = false := Bool.eq_false_iff.mpr hm
      obtain ⟨σ1, h1, h2, h3⟩ := (q.2 w e1).2 hm'
      rw [h1, fb_e, if_pos rfl, pcl_w e1 hm']
      exact ⟨fun h9 => (by cases h9), fun _ => ⟨σ1, rfl, h2, h3⟩⟩
/-! the model's text, its field -/
noncomputable abbrev ClsM (σ : Sg) (f : Nat) (cl : List Cls) : Prop := ∀ i c, cl[i]? = some c → ClM σ (10 * f + i) c (100 * f + (toksOf (cl.take i)).length)
theorem ClM_fx {b c c9 lo : Nat} {k : Cls} {σ σ' : Sg} (f : FXk b c9 σ σ') (hc : c ≠ c9) (hb : lo + k.2.2.length ≤ b) (h : ClM σ c k lo) : ClM σ' c k lo := by
  have e : ∀ id, id = 118 ∨ id = 119 ∨ id = 120 ∨ id = 121 → gi σ' id c = gi σ id c := fun id hid => FX_i f (by omega) (by rintro (⟨h9, -⟩ | ⟨h9, -⟩ | ⟨-, h9⟩) <;> omega)
  refine ⟨by rw [e 118 (by omega)]; exact h.1, by rw [e 119 (by omega)]; exact h.2.1, fun hw => ?_, fun j t ht => ?_⟩
  · rw [e 120 (by omega), e 121 (by omega)]; exact h.2.2.1 hw
  · have hj := (List.getElem?_eq_some_iff.mp ht).1
    rw [FX_i f (show ¬ (122 : Nat) = 123 by decide +kernel) (by rintro (⟨h9, -⟩ | ⟨-, h9⟩ | ⟨h9, -⟩) <;> omega)]
    exact h.2.2.2 j t ht
theorem ClM_si {c lo a j : Nat} {v : Int32} {k : Cls} {σ : Sg} (ha : a < 118 ∨ 122 < a) (h : ClM σ c k lo) : ClM (si σ a j v) c k lo := by
  have e : ∀ id i, 118 ≤ id → id ≤ 122 → gi (si σ a j v) id i = gi σ id i := fun id i h1 h2 => gi_si_ne (Or.inl (by omega))
  refine ⟨by rw [e 118 _ (by decide +kernel) (by decide +kernel)]; exact h.1, by rw [e 119 _ (by decide +kernel) (by decide +kernel)]; exact h.2.1, fun hw => ?_, fun j t ht => ?_⟩
  · rw [e 120 _ (by decide +kernel) (by decide +kernel), e 121 _ (by decide +kernel) (by decide +kernel)]; exact h.2.2.1 hw
  · rw [e 122 _ (by decide +kernel) (by decide +kernel)]; exact h.2.2.2 j t ht
theorem toks_take {cl : List Cls} {i : Nat} {c : Cls} (h : cl[i]? = some c) : (toksOf (cl.take i)).length + c.2.2.length ≤ (toksOf cl).length := by
  induction cl generalizing i with
  | nil => rw [List.getElem?_nil] at h; cases h
  | cons d cl ih =>
    have e : ∀ l : List Cls, toksOf (d :: l) = d.2.2 ++ toksOf l := fun l => by unfold toksOf; rw [List.map_cons, List.flatten_cons]
    cases i with
    | zero =>
      have h : some d = some c := h
      cases h
      rw [e, List.length_append, List.take_zero]
      show 0 + _ ≤ _
      omega
    | succ i =>
      have := ih (i := i) h
      rw [List.take_succ_cons, e, e, List.length_append, List.length_append]
      omega
/-- what the reading of field f leaves alone in the model -/
noncomputable def FXx (f : Nat) (σ σ' : Sg) : Prop := FX (fun id => id = 123) (fun id k => (id = 74 ∧ (k = 14 ∨ k = 15 ∨ k = 24 ∨ k = 25 ∨ k = 26)) ∨ (id = 122 ∧ 100 * f ≤ k) ∨ ((id = 118 ∨ id = 119 ∨ id = 120 ∨ id = 121) ∧ 10 * f ≤ k) ∨ (id = 117 ∧ k = f)) σ σ'
theorem FXx_tr {f : Nat} {σ σ1 σ2 : Sg} (g : FXx f σ σ1) (h : FXx f σ1 σ2) : FXx f σ σ2 := FX_tr g h (fun _ h => h) (fun _ _ h => Or.inr h)
theorem FXx_k {f b c : Nat} {σ σ1 : Sg} (hb : 100 * f ≤ b) (hc : 10 * f ≤ c) (g : FXk b c σ σ1) : FXx f σ σ1 := FX_tr FX_rf g (fun _ h => h) (fun _ _ h => Or.inr (h.elim Or.inl (fun h => h.elim (fun h => Or.inr (Or.inl ⟨h.1, by omega⟩)) (fun h => Or.inr (Or.inr (Or.inl ⟨h.1, by omega⟩))))))
theorem FXx_t {f : Nat} {σ σ1 : Sg} (g : FXt σ σ1) : FXx f σ σ1 := FX_tr FX_rf g (fun _ h => h.elim) (fun _ _ h => Or.inr (Or.inl ⟨h.1, h.2.elim Or.inl (fun h => Or.inr (Or.inl h))⟩))
theorem textM {nx : Nat → Int} {e f : Nat} {x1 : Int32} (hx : NXo nx e) (h1 : x1.toInt = (f : Int)) (hf : f ≤ 5) : ∀ k p cl σ (x2 : Int32) m, RtM nx e (100 * f + (toksOf cl).length) p σ → LTM σ → ClsM σ f cl → cl.length + k + 1 = 10 → x2.toInt = (cl.length : Int) → k + 1 ≤ m →
    ((ptext nx e (k + 1) p cl).1 = true → ∃ σ', LF_X12_goesText m x1 x2 σ = (1, σ') ∧ ClsM σ' f (ptext nx e (k + 1) p cl).2.2 ∧ (gi σ' 117 f).toInt = ((ptext nx e (k + 1) p cl).2.2.length : Int) ∧ FXx f σ σ')
    ∧ ((ptext nx e (k + 1) p cl).1 = false → ∃ σ', LF_X12_goesText m x1 x2 σ = (0, σ') ∧ (gi σ' 74 14).toInt = ((ptext nx e (k + 1) p cl).2.1 : Int) ∧ FXx f σ σ') := by
  have z10 : (10 : Int32).toInt = 10 := rfl
  have ec := cl_eq (x := x1) (by omega)
  have ef : x1.toNatClampNeg = f := by omega
  intro k
  induction k with
  | zero =>
    intro p cl σ x2 m h hL hC hl h2 hm
    obtain ⟨m, rfl⟩ : ∃ j, m = j + 1 := ⟨m - 1, by omega⟩
    have m1 : ((10 : Int32) * x1).toInt = 10 * x1.toInt := i_mull rfl (by omega) (by omega)
    have m2 : (((10 : Int32) * x1) + x2).toInt = ((10 : Int32) * x1).toInt + x2.toInt := i_add (by omega) (by omega)
    have ei := cl_eq (x := ((10 : Int32) * x1) + x2) (by omega)
    have en : (((10 : Int32) * x1) + x2).toNatClampNeg = 10 * f + cl.length := by omega
    have t9 : (x2 + (1 : Int32)).toInt = x2.toInt + 1 := i_add (y := (1 : Int32)) (by show (_ : Int) ≤ x2.toInt + 1; omega) (by show x2.toInt + 1 ≤ (_ : Int); omega)
    have q := clauseM (a1 := ((10 : Int32) * x1) + x2) hx h hL
    rw [en] at q
    show (_ → ∃ σ', LB_X12_goesText_15 (LF_X12_goesText m) x1 x2 σ = _ ∧ _) ∧ (_ → ∃ σ', LB_X12_goesText_15 (LF_X12_goesText m) x1 x2 σ = _ ∧ _)
    unfold LB_X12_goesText_15
    rw [ptext_s]
    by_cases hr : (pclause nx p).1 = true
    · obtain ⟨σ1, c1, c2, c3, c4⟩ := q.1 hr
      rw [c1, fb_e, if_neg (show ¬ (1 : Int32) = 0 by decide +kernel), if_pos hr, fl_e, fl_e, ef]
      obtain ⟨σ6, e6⟩ : ∃ σ6, σ6 = si σ1 117 f (x2 + 1) := ⟨_, rfl⟩
      rw [← e6]
      have r6 : RtM nx e (100 * f + (toksOf cl).length + (pclause nx p).2.2.2.2.length) (pclause nx p).2.1 σ6 := by rw [e6]; exact RtM_row ⟨by decide +kernel, by decide +kernel⟩ c2
      have f6 : FXx f σ σ6 := by
        rw [e6]
        exact FXx_tr (FXx_k (by omega) (by omega) c4) (FX_si FX_rf (Or.inr (Or.inr (Or.inr (Or.inr ⟨rfl, rfl⟩)))))
      by_cases hp : (pclause nx p).2.1 = e
      · rw [if_pos (show gi σ6 74 14 = gi σ6 74 13 from Int32.toInt_inj.mp (by rw [r6.at_, r6.en, hp])), if_pos hp]
        refine ⟨fun _ => ⟨σ6, rfl, fun i c hi => ?_, ?_, f6⟩, fun h9 => by cases h9⟩
        · have hi : (cl ++ [(pclause nx p).2.2])[i]? = some c := hi
          rw [e6]
          refine ClM_si (Or.inl (by decide +kernel)) ?_
          show ClM σ1 (10 * f + i) c (100 * f + (toksOf ((cl ++ [(pclause nx p).2.2]).take i)).length)
          by_cases hj : i = cl.length
          · rw [hj, List.getElem?_append_right (Nat.le_refl _), Nat.sub_self] at hi
            have hi : some (pclause nx p).2.2 = some c := hi
            cases hi
            rw [hj, List.take_append_of_le_length (Nat.le_refl _), List.take_length]
            exact c3
          · have hj2 : i < cl.length := by
              have := (List.getElem?_eq_some_iff.mp hi).1
              rw [List.length_append] at this
              have : i < cl.length + 1 := this
              omega
            rw [List.getElem?_append_left hj2] at hi
            rw [List.take_append_of_le_length (by omega)]
            exact ClM_fx c4 (by omega) (by have := toks_take hi; omega) (hC i c hi)
        · rw [e6, gi_si_eq, t9]
          show _ = ((cl ++ [(pclause nx p).2.2]).length : Int)
          rw [List.length_append]; show _ = ((cl.length + 1 : Nat) : Int); omega
      · rw [if_neg (show ¬ gi σ6 74 14 = gi σ6 74 13 from fun h9 => hp (by have := r6.at_; rw [h9, r6.en] at this; omega)), if_neg hp, if_pos (show (0 : Nat) = 0 from rfl), if_pos (show x2 + 1 = (10 : Int32) from Int32.toInt_inj.mp (by omega))]
        exact ⟨fun h9 => (by cases h9), fun _ => ⟨σ6, rfl, r6.at_, f6⟩⟩
    · obtain ⟨σ1, c1, c2, c3⟩ := q.2 (Bool.eq_false_iff.mpr hr)
      rw [c1, fb_e, if_pos rfl, if_neg hr]
      exact ⟨fun h9 => (by cases h9), fun _ => ⟨σ1, rfl, c2, FXx_k (by omega) (by omega) c3⟩⟩
  | succ k ih =>
    intro p cl σ x2 m h hL hC hl h2 hm
    obtain ⟨m, rfl⟩ : ∃ j, m = j + 1 := ⟨m - 1, by omega⟩
    have m1 : ((10 : Int32) * x1).toInt = 10 * x1.toInt := i_mull rfl (by omega) (by omega)
    have m2 : (((10 : Int32) * x1) + x2).toInt = ((10 : Int32) * x1).toInt + x2.toInt := i_add (by omega) (by omega)
    have ei := cl_eq (x := ((10 : Int32) * x1) + x2) (by omega)
    have en : (((10 : Int32) * x1) + x2).toNatClampNeg = 10 * f + cl.length := by omega
    have t9 : (x2 + (1 : Int32)).toInt = x2.toInt + 1 := i_add (y := (1 : Int32)) (by show (_ : Int) ≤ x2.toInt + 1; omega) (by show x2.toInt + 1 ≤ (_ : Int); omega)
    have q := clauseM (a1 := ((10 : Int32) * x1) + x2) hx h hL
    rw [en] at q
    show (_ → ∃ σ', LB_X12_goesText_15 (LF_X12_goesText m) x1 x2 σ = _ ∧ _) ∧ (_ → ∃ σ', LB_X12_goesText_15 (LF_X12_goesText m) x1 x2 σ = _ ∧ _)
    unfold LB_X12_goesText_15
    rw [ptext_s]
    by_cases hr : (pclause nx p).1 = true
    · obtain ⟨σ1, c1, c2, c3, c4⟩ := q.1 hr
      rw [c1, fb_e, if_neg (show ¬ (1 : Int32) = 0 by decide +kernel), if_pos hr, fl_e, fl_e, ef]
      obtain ⟨σ6, e6⟩ : ∃ σ6, σ6 = si σ1 117 f (x2 + 1) := ⟨_, rfl⟩
      rw [← e6]
      have r6 : RtM nx e (100 * f + (toksOf cl).length + (pclause nx p).2.2.2.2.length) (pclause nx p).2.1 σ6 := by rw [e6]; exact RtM_row ⟨by decide +kernel, by decide +kernel⟩ c2
      have f6 : FXx f σ σ6 := by
        rw [e6]
        exact FXx_tr (FXx_k (by omega) (by omega) c4) (FX_si FX_rf (Or.inr (Or.inr (Or.inr (Or.inr ⟨rfl, rfl⟩)))))
      have C6 : ClsM σ6 f (cl ++ [(pclause nx p).2.2]) := by
        intro i c hi
        rw [e6]
        refine ClM_si (Or.inl (by decide +kernel)) ?_
        show ClM σ1 (10 * f + i) c (100 * f + (toksOf ((cl ++ [(pclause nx p).2.2]).take i)).length)
        by_cases hj : i = cl.length
        · rw [hj, List.getElem?_append_right (Nat.le_refl _), Nat.sub_self] at hi
          have hi : some (pclause nx p).2.2 = some c := hi
          cases hi
          rw [hj, List.take_append_of_le_length (Nat.le_refl _), List.take_length]
          exact c3
        · have hj2 : i < cl.length := by
            have := (List.getElem?_eq_some_iff.mp hi).1
            rw [List.length_append] at this
            have : i < cl.length + 1 := this
            omega
          rw [List.getElem?_append_left hj2] at hi
          rw [List.take_append_of_le_length (by omega)]
          exact ClM_fx c4 (by omega) (by have := toks_take hi; omega) (hC i c hi)
      have n6 : (gi σ6 117 f).toInt = ((cl ++ [(pclause nx p).2.2]).length : Int) := by
        rw [e6, gi_si_eq, t9, List.length_append]; show _ = ((cl.length + 1 : Nat) : Int); omega
      by_cases hp : (pclause nx p).2.1 = e
      · rw [if_pos (show gi σ6 74 14 = gi σ6 74 13 from Int32.toInt_inj.mp (by rw [r6.at_, r6.en, hp])), if_pos hp]
        exact ⟨fun _ => ⟨σ6, rfl, C6, n6, f6⟩, fun h9 => by cases h9⟩
      · rw [if_neg (show ¬ gi σ6 74 14 = gi σ6 74 13 from fun h9 => hp (by have := r6.at_; rw [h9, r6.en] at this; omega)), if_neg hp, if_neg (Nat.succ_ne_zero k), if_neg (show ¬ x2 + 1 = (10 : Int32) from fun h9 => by rw [h9] at t9; omega)]
        by_cases hs : nx (pclause nx p).2.1 = 59
        · obtain ⟨t1, t2, t3⟩ := takesT_t hx r6 (op := 59) rfl (by decide +kernel) hs
          rw [t1, fb_e, if_neg (show ¬ (1 : Int32) = 0 by decide +kernel), if_pos hs]
          have L6 : LTM σ6 := LTM_eq (fun j => by rw [e6, gi_si_ne (Or.inl (by decide +kernel)), FX_i c4 (show ¬ (127 : Nat) = 123 by decide +kernel) (by rintro (⟨h9, -⟩ | ⟨h9, -⟩ | ⟨h9, -⟩) <;> omega)]) hL
          have g := ih ((pclause nx p).2.1 + 1) (cl ++ [(pclause nx p).2.2]) _ (x2 + 1) m (by rw [toksOf_ap, List.length_append, ← Nat.add_assoc]; exact t2) (LTM_eq (fun j => gi_si_ne (Or.inl (by decide +kernel))) L6) (fun i c hi => ClM_si (Or.inl (by decide +kernel)) (C6 i c hi)) (by rw [List.length_append]; show cl.length + 1 + k + 1 = 10; omega) (by rw [t9, List.length_append]; show _ = ((cl.length + 1 : Nat) : Int); omega) (by omega)
          refine ⟨fun h9 => ?_, fun h9 => ?_⟩
          · obtain ⟨σ', g1, g2, g3, g4⟩ := g.1 h9
            exact ⟨σ', g1, g2, g3, FXx_tr f6 (FXx_tr (FXx_t t3) g4)⟩
          · obtain ⟨σ', g1, g2, g3⟩ := g.2 h9
            exact ⟨σ', g1, g2, FXx_tr f6 (FXx_tr (FXx_t t3) g3)⟩
        · rw [takesT_f hx r6 (op := 59) rfl hs, fb_e, if_pos rfl, if_neg hs]
          exact ⟨fun h9 => (by cases h9), fun _ => ⟨σ6, rfl, r6.at_, f6⟩⟩
    · obtain ⟨σ1, c1, c2, c3⟩ := q.2 (Bool.eq_false_iff.mpr hr)
      rw [c1, fb_e, if_pos rfl, if_neg hr]
      exact ⟨fun h9 => (by cases h9), fun _ => ⟨σ1, rfl, c2, FXx_k (by omega) (by omega) c3⟩⟩
theorem goesM {e f : Nat} {σ : Sg} {a1 : Int32} (he : (gi σ 74 13).toInt = (e : Int)) (h100 : e ≤ 100) (hb : ∀ p, p < e → 0 ≤ (gi σ 116 p).toInt ∧ (gi σ 116 p).toInt ≤ 127) (hL : LTM σ) (h1 : a1.toInt = (f : Int)) (hf : f ≤ 5) :
    ((ptext (txn (fun p => gi σ 116 p) e) e 10 0 []).1 = true → ∃ σ', F_X12_goesText a1 σ = (1, σ') ∧ ClsM σ' f (ptext (txn (fun p => gi σ 116 p) e) e 10 0 []).2.2 ∧ (gi σ' 117 f).toInt = ((ptext (txn (fun p => gi σ 116 p) e) e 10 0 []).2.2.length : Int) ∧ FXx f σ σ')
    ∧ ((ptext (txn (fun p => gi σ 116 p) e) e 10 0 []).1 = false → ∃ σ', F_X12_goesText a1 σ = (0, σ') ∧ (gi σ' 74 14).toInt = ((ptext (txn (fun p => gi σ 116 p) e) e 10 0 []).2.1 : Int) ∧ FXx f σ σ') := by
  have hx := NXo_txn (g := fun p => gi σ 116 p) h100 hb
  obtain ⟨nx, en⟩ : ∃ nx, nx = txn (fun p => gi σ 116 p) e := ⟨_, rfl⟩
  rw [← en] at hx ⊢
  have m1 : ((100 : Int32) * a1).toInt = 100 * a1.toInt := i_mull rfl (by omega) (by omega)
  obtain ⟨σ2, e2⟩ : ∃ σ2, σ2 = si (si σ 74 14 (0 : Int32)) 74 24 ((100 : Int32) * a1) := ⟨_, rfl⟩
  have E : F_X12_goesText a1 σ = LF_X12_goesText 20 a1 (0 : Int32) σ2 := by
    unfold F_X12_goesText
    rw [fl_e, fl_e, ← e2]
  have f2 : FXx f σ σ2 := by
    rw [e2]
    exact FX_si (FX_si FX_rf (Or.inr (Or.inl ⟨rfl, by decide +kernel⟩))) (Or.inr (Or.inl ⟨rfl, by decide +kernel⟩))
  have r2 : RtM nx e (100 * f + (toksOf []).length) 0 σ2 := by
    rw [e2]
    refine ⟨?_, ?_, ?_, ?_, Nat.zero_le _, ?_⟩
    · rw [gi_si_ne (Or.inr (by decide +kernel)), gi_si_ne (Or.inr (by decide +kernel))]; exact he
    · intro q hq
      rw [gi_si_ne (Or.inl (by decide +kernel)), gi_si_ne (Or.inl (by decide +kernel)), en]
      unfold txn; rw [if_pos hq]
    · rw [gi_si_ne (Or.inr (by decide +kernel)), gi_si_eq]; rfl
    · rw [gi_si_eq, m1, h1]; show _ = ((100 * f + 0 : Nat) : Int); omega
    · show 100 * f + 0 ≤ 500 + 0; omega
  have g := textM (x1 := a1) hx h1 hf 9 0 [] σ2 (0 : Int32) 20 r2 (LTM_eq (fun j => by rw [e2, gi_si_ne (Or.inl (by decide +kernel)), gi_si_ne (Or.inl (by decide +kernel))]) hL) (fun i c hi => by rw [List.getElem?_nil] at hi; cases hi) rfl rfl (by decide +kernel)
  rw [E]
  refine ⟨fun h9 => ?_, fun h9 => ?_⟩
  · obtain ⟨σ', g1, g2, g3, g4⟩ := g.1 h9
    exact ⟨σ', g1, g2, g3, FXx_tr f2 g4⟩
  · obtain ⟨σ', g1, g2, g3⟩ := g.2 h9
    exact ⟨σ', g1, g2, FXx_tr f2 g3⟩
/-! the signs of E: how high the pile stands -/
noncomputable def Wf (d : Nat) : Nat → List Tok → Nat → Prop
  | h, [], h' => h = h'
  | h, Sum.inl q :: ts, h' => h + 1 ≤ d ∧ q.1 ≤ 5 ∧ q.2.1 ≤ 2 ∧ q.2.2 ≤ 99 ∧ Wf d (h + 1) ts h'
  | h, Sum.inr k :: ts, h' => if k = 0 then 1 ≤ h ∧ Wf d h ts h' else 2 ≤ h ∧ Wf d (h - 1) ts h'
theorem Wf_l {d h h' : Nat} {q : Nat × Nat × Nat} {ts : List Tok} : Wf d h (Sum.inl q :: ts) h' = (h + 1 ≤ d ∧ q.1 ≤ 5 ∧ q.2.1 ≤ 2 ∧ q.2.2 ≤ 99 ∧ Wf d (h + 1) ts h') := Eq.trans rfl rfl
theorem Wf_r {d h h' k : Nat} {ts : List Tok} : Wf d h (Sum.inr k :: ts) h' = (if k = 0 then 1 ≤ h ∧ Wf d h ts h' else 2 ≤ h ∧ Wf d (h - 1) ts h') := Eq.trans rfl rfl
theorem Wf_ap {d : Nat} {b : List Tok} {h2 : Nat} : ∀ (a : List Tok) (h h1 : Nat), Wf d h a h1 → Wf d h1 b h2 → Wf d h (a ++ b) h2 := by
  intro a
  induction a with
  | nil => intro h h1 x y; rw [show h = h1 from x]; exact y
  | cons t a ih =>
    intro h h1 x y
    cases t with
    | inl q =>
      rw [Wf_l] at x
      rw [List.cons_append, Wf_l]
      exact ⟨x.1, x.2.1, x.2.2.1, x.2.2.2.1, ih _ _ x.2.2.2.2 y⟩
    | inr k =>
      rw [Wf_r] at x
      rw [List.cons_append, Wf_r]
      by_cases hk : k = 0
      · rw [if_pos hk] at x ⊢; exact ⟨x.1, ih _ _ x.2 y⟩
      · rw [if_neg hk] at x ⊢; exact ⟨x.1, ih _ _ x.2 y⟩
theorem Wf_mono {d d' : Nat} (hd : d ≤ d') : ∀ (a : List Tok) (h h1 : Nat), Wf d h a h1 → Wf d' h a h1 := by
  intro a
  induction a with
  | nil => intro h h1 x; exact x
  | cons t a ih =>
    intro h h1 x
    cases t with
    | inl q =>
      rw [Wf_l] at x ⊢
      exact ⟨Nat.le_trans x.1 hd, x.2.1, x.2.2.1, x.2.2.2.1, ih _ _ x.2.2.2.2⟩
    | inr k =>
      rw [Wf_r] at x ⊢
      by_cases hk : k = 0
      · rw [if_pos hk] at x ⊢; exact ⟨x.1, ih _ _ x.2⟩
      · rw [if_neg hk] at x ⊢; exact ⟨x.1, ih _ _ x.2⟩
noncomputable def Gd (d : Nat) (ts : List Tok) : Prop := ∀ h, Wf (h + d) h ts (h + 1)
noncomputable def CG (d : Nat) (ts : List Tok) : Prop := ∀ h, 1 ≤ h → Wf (h + d) h ts h
theorem Gd_mono {d d' : Nat} {ts : List Tok} (hd : d ≤ d') (g : Gd d ts) : Gd d' ts := fun h => Wf_mono (by omega) _ _ _ (g h)
theorem G_pch {nx op tk d} {f : Nat → PRd} (hk : tk = Tok.A ∨ tk = Tok.O) (hf : ∀ p, (f p).1 = true → Gd d (f p).2.2) : ∀ n p, (pch nx op tk f n p).1 = true → CG d (pch nx op tk f n p).2.2 := by
  intro n
  induction n with
  | zero => intro p _ h _; exact (rfl : h = h)
  | succ n ih =>
    intro p h9
    by_cases hx : nx p = op
    · by_cases hr : (f (p + 1)).1 = true
      · have e1 : pch nx op tk f (n + 1) p = ((pch nx op tk f n (f (p + 1)).2.1).1, (pch nx op tk f n (f (p + 1)).2.1).2.1, (f (p + 1)).2.2 ++ tk :: (pch nx op tk f n (f (p + 1)).2.1).2.2) := by
          show (if nx p = op then _ else _) = _
          rw [if_pos hx, if_pos hr]
        rw [e1] at h9 ⊢
        intro h hh
        have k := ih _ h9 h hh
        refine Wf_ap _ _ _ (hf _ hr h) ?_
        rcases hk with rfl | rfl
        · show Wf _ _ (Sum.inr 1 :: _) _
          rw [Wf_r, if_neg (by decide +kernel)]; exact ⟨by omega, k⟩
        · show Wf _ _ (Sum.inr 2 :: _) _
          rw [Wf_r, if_neg (by decide +kernel)]; exact ⟨by omega, k⟩
      · have e1 : pch nx op tk f (n + 1) p = (false, (f (p + 1)).2.1, []) := by
          show (if nx p = op then _ else _) = _
          rw [if_pos hx, if_neg hr]
        rw [e1] at h9; cases h9
    · have e1 : pch nx op tk f (n + 1) p = (true, p, []) := by
        show (if nx p = op then _ else _) = _
        rw [if_neg hx]
      rw [e1]
      intro h _; exact (rfl : h = h)
theorem G_pchain {nx op tk d} {f : Nat → PRd} (hk : tk = Tok.A ∨ tk = Tok.O) (hf : ∀ p, (f p).1 = true → Gd d (f p).2.2) (p : Nat) (h9 : (pchain nx op tk f p).1 = true) : Gd (d + 1) (pchain nx op tk f p).2.2 := by
  by_cases hr : (f p).1 = true
  · have e1 : pchain nx op tk f p = ((pch nx op tk f 101 (f p).2.1).1, (pch nx op tk f 101 (f p).2.1).2.1, (f p).2.2 ++ (pch nx op tk f 101 (f p).2.1).2.2) := by
      show (if (f p).1 = true then _ else _) = _
      rw [if_pos hr]
    rw [e1] at h9 ⊢
    intro h
    have k := G_pch hk hf 101 _ h9 (h + 1) (by omega)
    rw [show h + 1 + d = h + (d + 1) from by omega] at k
    exact Wf_ap _ _ _ (Wf_mono (by omega) _ _ _ (hf p hr h)) k
  · have e1 : pchain nx op tk f p = (false, (f p).2.1, []) := by
      show (if (f p).1 = true then _ else _) = _
      rw [if_neg hr]
    rw [e1] at h9; cases h9
theorem pnum_99 {nx : Nat → Int} {p : Nat} : (pnum nx p).2.2 ≤ 99 := by
  unfold pnum
  by_cases d0 : dig (nx p) = true
  · have b0 := of_decide_eq_true d0
    rw [if_pos d0]
    by_cases d1 : dig (nx (p + 1)) = true
    · have b1 := of_decide_eq_true d1
      rw [if_pos d1]
      show 10 * (nx p - 48).toNat + (nx (p + 1) - 48).toNat ≤ 99
      omega
    · rw [if_neg d1]
      show (nx p - 48).toNat ≤ 99
      omega
  · rw [if_neg d0]; exact Nat.zero_le _
theorem G_test {nx : Nat → Int} {p : Nat} (h : (ptest nx p).1 = true) : Gd 1 (ptest nx p).2.2 := by
  unfold ptest at h ⊢
  cases e1 : ltr (nx p) with
  | none => rw [e1] at h; cases h
  | some f =>
    rw [e1] at h
    cases e2 : cmpn (nx (p + 1)) with
    | none => simp only [e2] at h; cases h
    | some s =>
      simp only [e2] at h ⊢
      by_cases hq : (pnum nx (p + 2)).1 = true
      · rw [if_pos hq]
        intro h
        show Wf _ _ [Sum.inl (f, s, (pnum nx (p + 2)).2.2)] _
        rw [Wf_l]
        exact ⟨Nat.le_refl _, (ltr_lt e1).1, (cmp_lt e2).1, pnum_99, rfl⟩
      · rw [if_neg hq] at h; cases h
theorem G_part {nx : Nat → Int} : ∀ k p, (ppart nx (ptest nx) k p).1 = true → Gd (1 + 2 * k) (ppart nx (ptest nx) k p).2.2 := by
  intro k
  induction k with
  | zero => intro p h; exact G_test h
  | succ k ih =>
    intro p h
    by_cases h33 : nx p = 33
    · by_cases hr : (ppart nx (ptest nx) k (p + 1)).1 = true
      · have e1 : ppart nx (ptest nx) (k + 1) p = (true, (ppart nx (ptest nx) k (p + 1)).2.1, (ppart nx (ptest nx) k (p + 1)).2.2 ++ [.N]) := by
          show (if nx p = 33 then _ else _) = _
          rw [if_pos h33, if_pos hr]
        rw [e1]
        intro h
        refine Wf_ap _ _ _ (Wf_mono (by omega) _ _ _ (ih _ hr h)) ?_
        show Wf _ _ [Sum.inr 0] _
        rw [Wf_r, if_pos rfl]
        exact ⟨by omega, rfl⟩
      · have e1 : ppart nx (ptest nx) (k + 1) p = (false, (ppart nx (ptest nx) k (p + 1)).2.1, []) := by
          show (if nx p = 33 then _ else _) = _
          rw [if_pos h33, if_neg hr]
        rw [e1] at h; cases h
    · by_cases h40 : nx p = 40
      · by_cases hr : (peither nx (ppart nx (ptest nx) k) (p + 1)).1 = true
        · by_cases h41 : nx (peither nx (ppart nx (ptest nx) k) (p + 1)).2.1 = 41
          · have e1 : ppart nx (ptest nx) (k + 1) p = (true, (peither nx (ppart nx (ptest nx) k) (p + 1)).2.1 + 1, (peither nx (ppart nx (ptest nx) k) (p + 1)).2.2) := by
              show (if nx p = 33 then _ else _) = _
              rw [if_neg h33, if_pos h40, if_pos hr, if_pos h41]
            rw [e1]
            refine Gd_mono (d := 1 + 2 * k + 1 + 1) (by omega) ?_
            exact G_pchain (Or.inr rfl) (fun q hq => G_pchain (Or.inl rfl) ih q hq) (p + 1) hr
          · have e1 : ppart nx (ptest nx) (k + 1) p = (false, (peither nx (ppart nx (ptest nx) k) (p + 1)).2.1, []) := by
              show (if nx p = 33 then _ else _) = _
              rw [if_neg h33, if_pos h40, if_pos hr, if_neg h41]
            rw [e1] at h; cases h
        · have e1 : ppart nx (ptest nx) (k + 1) p = (false, (peither nx (ppart nx (ptest nx) k) (p + 1)).2.1, []) := by
            show (if nx p = 33 then _ else _) = _
            rw [if_neg h33, if_pos h40, if_neg hr]
          rw [e1] at h; cases h
      · have e1 : ppart nx (ptest nx) (k + 1) p = ptest nx p := by
          show (if nx p = 33 then _ else _) = _
          rw [if_neg h33, if_neg h40]
        rw [e1] at h ⊢
        exact Gd_mono (by omega) (G_test h)
theorem G_pE {nx : Nat → Int} {p : Nat} (h : (pE nx p).1 = true) : Gd 11 (pE nx p).2.2 :=
  G_pchain (Or.inr rfl) (fun q hq => G_pchain (Or.inl rfl) (fun q hq => G_part 4 q hq) q hq) p h
/-- a clause as it may be -/
noncomputable abbrev PW1 (c : Cls) : Prop := (c.1 ≤ 4) ∧ (c.2.1 ≤ 99) ∧ (c.1 ≤ 1 → Gd 11 c.2.2) ∧ (2 ≤ c.1 → c.2.2 = [])
noncomputable abbrev PW (cl : List Cls) : Prop := ∀ c, c ∈ cl → PW1 c
theorem pclause_PW {nx : Nat → Int} {p : Nat} (h : (pclause nx p).1 = true) : PW1 (pclause nx p).2.2 := by
  cases e1 : wrd (nx p) with
  | none => rw [pcl_n e1] at h; cases h
  | some w =>
    obtain ⟨w4, -⟩ := wrd_lt e1
    by_cases hm : (pmatch nx (wtx w) p).1 = true
    · by_cases hd : (pnum nx (pmatch nx (wtx w) p).2).1 = true
      · by_cases hw : 2 ≤ w
        · rw [pcl_2 e1 hm hd hw]
          exact ⟨w4, pnum_99, fun h9 => absurd h9 (by show ¬ w ≤ 1; omega), fun _ => rfl⟩
        · by_cases hb : nx (pnum nx (pmatch nx (wtx w) p).2).2.1 = 32
          · rw [pcl_e e1 hm hd hw hb] at h ⊢
            exact ⟨w4, pnum_99, fun _ => G_pE h, fun h9 => absurd h9 hw⟩
          · rw [pcl_b e1 hm hd hw hb] at h; cases h
      · rw [pcl_d e1 hm (Bool.eq_false_iff.mpr hd)] at h; cases h
    · rw [pcl_w e1 (Bool.eq_false_iff.mpr hm)] at h; cases h
theorem ptext_PW {nx : Nat → Int} {e : Nat} : ∀ k p cl, PW cl → (ptext nx e k p cl).1 = true → PW (ptext nx e k p cl).2.2 := by
  intro k
  induction k with
  | zero => intro p cl _ h; cases h
  | succ k ih =>
    intro p cl hc h
    rw [ptext_s] at h ⊢
    by_cases hr : (pclause nx p).1 = true
    · have hc2 : PW (cl ++ [(pclause nx p).2.2]) := by
        intro c hc9
        rcases List.mem_append.mp hc9 with h9 | h9
        · exact hc c h9
        · rw [List.mem_singleton.mp h9]; exact pclause_PW hr
      rw [if_pos hr] at h ⊢
      by_cases hp : (pclause nx p).2.1 = e
      · rw [if_pos hp]; exact hc2
      · rw [if_neg hp] at h ⊢
        by_cases hk : k = 0
        · rw [if_pos hk] at h; cases h
        · rw [if_neg hk] at h ⊢
          by_cases hs : nx (pclause nx p).2.1 = 59
          · rw [if_pos hs] at h ⊢; exact ih _ _ hc2 h
          · rw [if_neg hs] at h; cases h
    · rw [if_neg hr] at h; cases h
