/-! the field that is read, alike in both -/
noncomputable def FLDR (σ : Sg) (f : Nat) (r : Int32) (σ' : Sg) : Prop := ∃ (σ2 : Sg) (r2 : Int32), F_X2_reads f 50 (gi σ 0 7) σ = (r2, σ2) ∧ ((r2 = 0 ∧ r = (-10 : Int32) - gi σ2 f 11 ∧ σ' = si σ2 0 7 (0 : Int32)) ∨ (¬ r2 = 0 ∧ σ' = si (sr (si σ2 0 7 (0 : Int32)) 1 10 (some f)) 0 5 ((gi σ 0 5) + (1 : Int32)) ∧ r = ((gi σ 0 5) + (1 : Int32)) - (1 : Int32)))
noncomputable def FLDC (σ : Sg) (r : Int32) (σ' : Sg) : Prop := (¬ (gi σ 0 5).toInt < 6 ∧ r = (-4 : Int32) ∧ σ' = σ) ∨ ((gi σ 0 5).toInt < 6 ∧ ∃ (f : Nat) (σ1 : Sg), ((gr σ 49 (gi σ 0 5).toNatClampNeg = some f ∧ σ1 = σ) ∨ (gr σ 49 (gi σ 0 5).toNatClampNeg = none ∧ f = 1000 + 5 * (gi σ 0 5).toNatClampNeg ∧ σ1 = sr (fnew σ f) 49 (gi σ 0 5).toNatClampNeg (some f))) ∧ FLDR σ1 f r σ')
set_option maxHeartbeats 4000000 in
theorem RF_field {r1 r2 : Int32} {σ σ1 σ2 : Sg} (h5 : 0 ≤ (gi σ 0 5).toInt) (h7 : 0 ≤ (gi σ 0 7).toInt ∧ (gi σ 0 7).toInt ≤ 100) (hb : ∀ p, p < 100 → 0 ≤ (gi σ 116 p).toInt ∧ (gi σ 116 p).toInt ≤ 127) (q : RF σ) (h1 : FLDC σ r1 σ1) (h2 : F_X12_field σ1 = (r2, σ2)) : RF σ2 ∧ r1 = r2 := by
  obtain ⟨⟨⟨t1, t2⟩, ⟨f1, f0, f2, f3⟩, b9, l9⟩, d1, d2⟩ := id q
  have z6 : (6 : Int32).toInt = 6 := rfl
  have ec := cl_eq (x := gi σ 0 5) h5
  obtain ⟨n, hn⟩ : ∃ n : Nat, n = (gi σ 0 5).toNatClampNeg := ⟨_, rfl⟩
  rcases h1 with ⟨c, rfl, rfl⟩ | ⟨c, f, σ0, hs, σr, rr, e1, e2⟩
  · unfold F_X12_field at h2
    rw [if_pos (show gi σ1 74 11 = (6 : Int32) from Int32.toInt_inj.mp (by omega))] at h2
    cases h2
    exact ⟨q, rfl⟩
  rw [← hn] at hs ec
  have hf : f = 1000 + 5 * n := by
    rcases hs with ⟨a, -⟩ | ⟨-, a, -⟩
    · rcases f2 n (by omega) with h9 | h9
      · rw [h9] at a; cases a
      · rw [h9] at a; exact (Option.some.inj a).symm
    · exact a
  have gI0 : ∀ id k, ¬ (f ≤ id ∧ id ≤ f + 4) → gi σ0 id k = gi σ id k := by
    intro id k hid
    rcases hs with ⟨-, a⟩ | ⟨-, -, a⟩
    · rw [a]
    · rw [a, gi_sr]; exact fn_i hid
  have gR0 : ∀ id k, id ≠ 49 → id ≠ f → gr σ0 id k = gr σ id k := by
    intro id k hid hid2
    rcases hs with ⟨-, a⟩ | ⟨-, -, a⟩
    · rw [a]
    · rw [a, gr_sr, if_neg (fun z => hid z.1), fn_r, if_neg hid2]
  have g49 : ∀ k, gr σ0 49 k = if k = n then some f else gr σ 49 k := by
    intro k
    rcases hs with ⟨b, a⟩ | ⟨-, -, a⟩
    · by_cases hk : k = n
      · rw [if_pos hk, a, hk]; exact b
      · rw [if_neg hk, a]
    · rw [a, gr_sr]
      by_cases hk : k = n
      · rw [if_pos ⟨rfl, hk⟩, if_pos hk]
      · rw [if_neg (fun z => hk z.2), if_neg hk, fn_r, if_neg (by omega)]
  have ed := cl_eq (x := gi σ 0 7) h7.1
  obtain ⟨e, he⟩ : ∃ e : Nat, e = (gi σ 0 7).toNatClampNeg := ⟨_, rfl⟩
  rw [← he] at ed
  have ht : ∀ p, p < e → (gi σ0 50 p).toInt = (gi σ 116 p).toInt := fun p hp => by rw [gI0 50 p (by omega)]; exact t2 p (by omega)
  have C := readsC (c0 := f) (e := e) (σ := σ0) (a2 := gi σ0 0 7) (by omega) (by rw [gI0 0 7 (by omega)]; omega) (by omega) (fun p hp => by rw [ht p hp]; exact hb p (by omega))
  obtain ⟨nx, enx⟩ : ∃ nx, nx = txn (fun p => gi σ0 50 p) e := ⟨_, rfl⟩
  rw [← enx] at C
  have nx1 : ∀ τ : Sg, (∀ p, gi τ 116 p = gi σ 116 p) → txn (fun p => gi τ 116 p) e = nx := by
    intro τ hτ
    rw [enx]
    funext p
    unfold txn
    by_cases hp : p < e
    · rw [if_pos hp, if_pos hp]
      show (gi τ 116 p).toInt = (gi σ0 50 p).toInt
      rw [hτ, ht p hp]
    · rw [if_neg hp, if_neg hp]
  have g05 : gi σ0 0 5 = gi σ 0 5 := gI0 0 5 (by omega)
  by_cases ok : (ptext nx e 10 0 []).1 = true
  · obtain ⟨σ', c1, c2, c3, c4, c5, c6⟩ := C.1 ok
    rw [c1] at e1
    obtain ⟨rfl, rfl⟩ := Prod.mk.inj e1
    rcases e2 with ⟨h9, -⟩ | ⟨-, es, er⟩
    · exact absurd h9 (by decide)
    rw [g05] at es er
    have t9 : ((gi σ 0 5) + (1 : Int32)).toInt = (gi σ 0 5).toInt + 1 := i_add (y := (1 : Int32)) (by show (_ : Int) ≤ (gi σ 0 5).toInt + 1; omega) (by show (gi σ 0 5).toInt + 1 ≤ (_ : Int); omega)
    have t8 : (((gi σ 0 5) + (1 : Int32)) - (1 : Int32)).toInt = ((gi σ 0 5) + (1 : Int32)).toInt - 1 := i_pred (by omega)
    have gI1 : ∀ id k, ¬ (f ≤ id ∧ id ≤ f + 4) → id ≠ 0 → gi σ1 id k = gi σ id k := fun id k a b => by
      rw [es, gi_si_ne (Or.inl b), gi_sr, gi_si_ne (Or.inl b), FX_i c6 (by omega) (by show ¬ id = f; omega), gI0 id k a]
    have gF1 : ∀ id k, f ≤ id → gi σ1 id k = gi σ' id k := fun id k a => by
      rw [es, gi_si_ne (Or.inl (by omega)), gi_sr, gi_si_ne (Or.inl (by omega))]
    have gR1 : ∀ id k, id ≠ 1 → id < f → gr σ1 id k = gr σ0 id k := fun id k a b => by
      rw [es, gr_si, gr_sr, if_neg (fun z => a z.1), gr_si]
      exact FX_r c6 (by omega) (by show ¬ id = f; omega)
    have r110 : gr σ1 1 10 = some f := by rw [es, gr_si, gr_sr, if_pos ⟨rfl, rfl⟩]
    have g74 : ∀ k, gi σ1 74 k = gi σ 74 k := fun k => gI1 74 k (by omega) (by decide)
    have M := goesM (σ := σ1) (e := e) (f := n) (a1 := gi σ1 74 11) (by rw [g74]; omega) (by omega) (fun p hp => by rw [gI1 116 p (by omega) (by decide)]; exact hb p (by omega)) (LTM_eq (fun k => gI1 127 k (by omega) (by decide)) l9) (by rw [g74]; omega) (by omega)
    rw [nx1 σ1 (fun p => gI1 116 p (by omega) (by decide))] at M
    obtain ⟨σm, m1, m2, m3, m4⟩ := M.1 ok
    unfold F_X12_field at h2
    rw [if_neg (show ¬ gi σ1 74 11 = (6 : Int32) from fun h9 => by rw [g74] at h9; rw [h9] at f1; omega), m1, fb_e] at h2
    simp only [fl_e] at h2
    rw [if_neg (show ¬ (1 : Int32) = 0 by decide)] at h2
    have gm : ∀ k, k ≠ 14 → k ≠ 15 → k ≠ 24 → k ≠ 25 → k ≠ 26 → gi σm 74 k = gi σ 74 k := fun k a b c d e9 => by
      rw [FX_i m4 (by decide) (by rintro (⟨-, h9⟩ | ⟨h9, -⟩ | ⟨h9, -⟩ | ⟨h9, -⟩) <;> omega), g74]
    have x11 : gi (si σm 74 13 (0 : Int32)) 74 11 = gi σ 74 11 := by rw [gi_si_ne (Or.inr (by decide))]; exact gm 11 (by decide) (by decide) (by decide) (by decide) (by decide)
    have x11b : gi (si (si σm 74 13 (0 : Int32)) 74 12 (gi σ 74 11)) 74 11 = gi σ 74 11 := by rw [gi_si_ne (Or.inr (by decide))]; exact x11
    rw [x11, x11b] at h2
    have s2 : σ2 = si (si (si σm 74 13 (0 : Int32)) 74 12 (gi σ 74 11)) 74 11 ((gi σ 74 11) + (1 : Int32)) := (Prod.mk.inj h2).2.symm
    have p2 : r2 = gi σ 74 11 := by
      rw [← (Prod.mk.inj h2).1, gi_si_ne (Or.inr (by decide)), gi_si_eq]
    have t7 : ((gi σ 74 11) + (1 : Int32)).toInt = (gi σ 74 11).toInt + 1 := i_add (y := (1 : Int32)) (by show (_ : Int) ≤ (gi σ 74 11).toInt + 1; omega) (by show (gi σ 74 11).toInt + 1 ≤ (_ : Int); omega)
    have g2o : ∀ id k, id ≠ 74 → gi σ2 id k = gi σm id k := fun id k a => by rw [s2, gi_si_ne (Or.inl a), gi_si_ne (Or.inl a), gi_si_ne (Or.inl a)]
    have g2m : ∀ id k, id < 117 ∨ 123 < id → id ≠ 74 → gi σ2 id k = gi σ1 id k := fun id k a b => by
      rw [g2o id k b, FX_i m4 (show ¬ id = 123 by omega) (by rintro (⟨h9, -⟩ | ⟨h9, -⟩ | ⟨h9, -⟩ | ⟨h9, -⟩) <;> omega)]
    have q11 : gi σ2 74 11 = (gi σ 74 11) + (1 : Int32) := by rw [s2, gi_si_eq]
    have q12 : gi σ2 74 12 = gi σ 74 11 := by rw [s2, gi_si_ne (Or.inr (by decide)), gi_si_eq]
    have q13 : gi σ2 74 13 = 0 := by rw [s2, gi_si_ne (Or.inr (by decide)), gi_si_ne (Or.inr (by decide)), gi_si_eq]
    have q50 : gi σ2 74 50 = gi σ 74 50 := by rw [s2, gi_si_ne (Or.inr (by decide)), gi_si_ne (Or.inr (by decide)), gi_si_ne (Or.inr (by decide))]; exact gm 50 (by decide) (by decide) (by decide) (by decide) (by decide)
    have q05 : gi σ2 0 5 = (gi σ 0 5) + (1 : Int32) := by rw [g2m 0 5 (by decide) (by decide), es, gi_si_eq]
    have q07 : gi σ2 0 7 = 0 := by rw [g2m 0 7 (by decide) (by decide), es, gi_si_ne (Or.inr (by decide)), gi_sr, gi_si_eq]
    have gR2 : ∀ id k, gr σ2 id k = gr σm id k := fun id k => by rw [s2]; rfl
    have gR3 : ∀ id k, id ≠ 123 → id ≠ 74 → id < 117 ∨ 123 < id → gr σm id k = gr σ1 id k := fun id k a b c => FX_r m4 a (by rintro (⟨h9, -⟩ | ⟨h9, -⟩ | ⟨h9, -⟩ | ⟨h9, -⟩) <;> omega)
    have old : ∀ k cl, k < n → FDS σ k cl → FDS σ2 k cl := fun k cl hk h => by
      refine FDS_eq (fun id j a b => ?_) (fun id j a b c => ?_) (fun j hj => ?_) ?_ h
      · rw [g2m id j (by omega) (by omega)]; exact gI1 id j (by omega) (by omega)
      · rw [g2o id j (by omega), FX_i m4 (show ¬ id = 123 by omega) (by rintro (⟨h9, -⟩ | ⟨h9, -⟩ | ⟨-, h9⟩ | ⟨h9, -⟩) <;> omega)]; exact gI1 id j (by omega) (by omega)
      · rw [g2o 122 j (by decide), FX_i m4 (by decide) (by rintro (⟨h9, -⟩ | ⟨-, h9⟩ | ⟨h9, -⟩ | ⟨h9, -⟩) <;> omega)]; exact gI1 122 j (by omega) (by decide)
      · rw [g2o 117 k (by decide), FX_i m4 (by decide) (by rintro (⟨h9, -⟩ | ⟨h9, -⟩ | ⟨h9, -⟩ | ⟨-, h9⟩) <;> omega)]; exact gI1 117 k (by omega) (by decide)
    have new : FDS σ2 n (ptext nx e 10 0 []).2.2 := by
      refine ⟨?_, ?_, ?_, c5, ptext_PW 10 0 [] (fun c hc => absurd hc List.not_mem_nil) ok, ?_⟩
      · rw [← hf]
        exact FdA_eq (fun id j a b => by rw [g2m id j (by omega) (by omega)]; exact gF1 id j a) ⟨c3, c4, c2.cd⟩
      · exact ClsM_eq (fun i id _ a b => g2o id _ (by omega)) (fun j _ => g2o 122 j (by decide)) m2
      · rw [g2o 117 n (by decide)]; exact m3
      · have := c2.ll; omega
    refine ⟨⟨⟨⟨by rw [q07, q13], fun p hp => ?_⟩, ⟨by rw [q05, q11]; omega, by rw [q05]; omega, fun k hk => ?_, fun k hk => ?_⟩, FdA_eq (fun id j a b => by rw [g2m id j (by omega) (by omega)]; exact gI1 id j (by omega) (by omega)) b9, LTM_eq (fun k => by rw [g2m 127 k (by decide) (by decide)]; exact gI1 127 k (by omega) (by decide)) l9⟩, Or.inr ⟨n, by rw [q12]; omega, by rw [q11]; omega, ?_⟩, HLD_eq (by rw [q50]) (by rw [q11]; omega) ?_ d2⟩, ?_⟩
    · rw [q07] at hp
      have hp : (p : Int) < 0 := hp
      omega
    · rw [gR2, gR3 49 k (by decide) (by decide) (by decide), gR1 49 k (by decide) (by omega), g49]
      by_cases z : k = n
      · rw [if_pos z, z, hf]; exact Or.inr rfl
      · rw [if_neg z]; exact f2 k hk
    · rw [q05] at hk
      by_cases z : k = n
      · rw [z]; exact ⟨_, new⟩
      · obtain ⟨cl, hcl⟩ := f3 k (by omega)
        exact ⟨cl, old k cl (by omega) hcl⟩
    · rw [gR2, gR3 1 10 (by decide) (by decide) (by decide), r110, hf]
    · rw [gR2, gR3 17 10 (by decide) (by decide) (by decide), gR1 17 10 (by decide) (by omega), gR0 17 10 (by decide) (by omega)]
    · rw [er, p2]; exact Int32.toInt_inj.mp (by omega)
  · obtain ⟨σ', c1, c2, c6⟩ := C.2 (Bool.eq_false_iff.mpr ok)
    rw [c1] at e1
    obtain ⟨rfl, rfl⟩ := Prod.mk.inj e1
    rcases e2 with ⟨-, er, es⟩ | ⟨h9, -⟩
    rotate_left
    · exact absurd rfl h9
    have gI1 : ∀ id k, ¬ (f ≤ id ∧ id ≤ f + 4) → id ≠ 0 → gi σ1 id k = gi σ id k := fun id k a b => by
      rw [es, gi_si_ne (Or.inl b), FX_i c6 (by omega) (by show ¬ id = f; omega), gI0 id k a]
    have gR1 : ∀ id k, id < f → gr σ1 id k = gr σ0 id k := fun id k b => by
      rw [es, gr_si]
      exact FX_r c6 (by omega) (by show ¬ id = f; omega)
    have g74 : ∀ k, gi σ1 74 k = gi σ 74 k := fun k => gI1 74 k (by omega) (by decide)
    have M := goesM (σ := σ1) (e := e) (f := n) (a1 := gi σ1 74 11) (by rw [g74]; omega) (by omega) (fun p hp => by rw [gI1 116 p (by omega) (by decide)]; exact hb p (by omega)) (LTM_eq (fun k => gI1 127 k (by omega) (by decide)) l9) (by rw [g74]; omega) (by omega)
    rw [nx1 σ1 (fun p => gI1 116 p (by omega) (by decide))] at M
    obtain ⟨σm, m1, m2, m4⟩ := M.2 (Bool.eq_false_iff.mpr ok)
    unfold F_X12_field at h2
    rw [if_neg (show ¬ gi σ1 74 11 = (6 : Int32) from fun h9 => by rw [g74] at h9; rw [h9] at f1; omega), m1, fb_e] at h2
    simp only [fl_e] at h2
    rw [if_pos trivial] at h2
    have gm : ∀ k, k ≠ 14 → k ≠ 15 → k ≠ 24 → k ≠ 25 → k ≠ 26 → gi σm 74 k = gi σ 74 k := fun k a b c d e9 => by
      rw [FX_i m4 (by decide) (by rintro (⟨-, h9⟩ | ⟨h9, -⟩ | ⟨h9, -⟩ | ⟨h9, -⟩) <;> omega), g74]
    have s2 : σ2 = si σm 74 13 (0 : Int32) := (Prod.mk.inj h2).2.symm
    have p2 : r2 = (-10 : Int32) - gi σm 74 14 := by
      rw [← (Prod.mk.inj h2).1, gi_si_ne (Or.inr (by decide))]
    have g2o : ∀ id k, id ≠ 74 → gi σ2 id k = gi σm id k := fun id k a => by rw [s2, gi_si_ne (Or.inl a)]
    have g2m : ∀ id k, id < 117 ∨ 123 < id → id ≠ 74 → gi σ2 id k = gi σ1 id k := fun id k a b => by
      rw [g2o id k b, FX_i m4 (show ¬ id = 123 by omega) (by rintro (⟨h9, -⟩ | ⟨h9, -⟩ | ⟨h9, -⟩ | ⟨h9, -⟩) <;> omega)]
    have q74 : ∀ k, k = 11 ∨ k = 12 ∨ k = 50 → gi σ2 74 k = gi σ 74 k := fun k hk => by
      rw [s2, gi_si_ne (Or.inr (by omega))]; exact gm k (by omega) (by omega) (by omega) (by omega) (by omega)
    have q13 : gi σ2 74 13 = 0 := by rw [s2, gi_si_eq]
    have q05 : gi σ2 0 5 = gi σ 0 5 := by rw [g2m 0 5 (by decide) (by decide), es, gi_si_ne (Or.inr (by decide)), FX_i c6 (by omega) (by show ¬ 0 = f; omega)]; exact g05
    have q07 : gi σ2 0 7 = 0 := by rw [g2m 0 7 (by decide) (by decide), es, gi_si_eq]
    have gR2 : ∀ id k, gr σ2 id k = gr σm id k := fun id k => by rw [s2]; rfl
    have gR3 : ∀ id k, id ≠ 123 → id ≠ 74 → id < 117 ∨ 123 < id → gr σm id k = gr σ1 id k := fun id k a b c => FX_r m4 a (by rintro (⟨h9, -⟩ | ⟨h9, -⟩ | ⟨h9, -⟩ | ⟨h9, -⟩) <;> omega)
    have old : ∀ k cl, k < n → FDS σ k cl → FDS σ2 k cl := fun k cl hk h => by
      refine FDS_eq (fun id j a b => ?_) (fun id j a b c => ?_) (fun j hj => ?_) ?_ h
      · rw [g2m id j (by omega) (by omega)]; exact gI1 id j (by omega) (by omega)
      · rw [g2o id j (by omega), FX_i m4 (show ¬ id = 123 by omega) (by rintro (⟨h9, -⟩ | ⟨h9, -⟩ | ⟨-, h9⟩ | ⟨h9, -⟩) <;> omega)]; exact gI1 id j (by omega) (by omega)
      · rw [g2o 122 j (by decide), FX_i m4 (by decide) (by rintro (⟨h9, -⟩ | ⟨-, h9⟩ | ⟨h9, -⟩ | ⟨h9, -⟩) <;> omega)]; exact gI1 122 j (by omega) (by decide)
      · rw [g2o 117 k (by decide), FX_i m4 (by decide) (by rintro (⟨h9, -⟩ | ⟨h9, -⟩ | ⟨h9, -⟩ | ⟨-, h9⟩) <;> omega)]; exact gI1 117 k (by omega) (by decide)
    refine ⟨⟨⟨⟨by rw [q07, q13], fun p hp => ?_⟩, ⟨by rw [q05, q74 11 (by decide)]; exact f1, by rw [q05]; exact f0, fun k hk => ?_, fun k hk => ?_⟩, FdA_eq (fun id j a b => by rw [g2m id j (by omega) (by omega)]; exact gI1 id j (by omega) (by omega)) b9, LTM_eq (fun k => by rw [g2m 127 k (by decide) (by decide)]; exact gI1 127 k (by omega) (by decide)) l9⟩, HLD_eq (by rw [q74 12 (by decide)]) (by rw [q74 11 (by decide)]; exact Int.le_refl _) ?_ d1, HLD_eq (by rw [q74 50 (by decide)]) (by rw [q74 11 (by decide)]; exact Int.le_refl _) ?_ d2⟩, ?_⟩
    · rw [q07] at hp
      have hp : (p : Int) < 0 := hp
      omega
    · rw [gR2, gR3 49 k (by decide) (by decide) (by decide), gR1 49 k (by omega), g49]
      by_cases z : k = n
      · rw [if_pos z, z, hf]; exact Or.inr rfl
      · rw [if_neg z]; exact f2 k hk
    · rw [q05] at hk
      obtain ⟨cl, hcl⟩ := f3 k hk
      exact ⟨cl, old k cl (by omega) hcl⟩
    · rw [gR2, gR3 1 10 (by decide) (by decide) (by decide), gR1 1 10 (by omega), gR0 1 10 (by decide) (by omega)]
    · rw [gR2, gR3 17 10 (by decide) (by decide) (by decide), gR1 17 10 (by omega), gR0 17 10 (by decide) (by omega)]
    · rw [er, p2]
      exact congrArg (fun z => (-10 : Int32) - z) (Int32.toInt_inj.mp (by rw [c2, m2]))
