/-! texts and fields, alike in both -/
noncomputable abbrev FdA (σ : Sg) (c0 : Nat) (cl : List Cls) : Prop := (FdR σ c0 cl) ∧ (FdN σ c0 cl) ∧ (CDc σ c0 (toksOf cl))
noncomputable abbrev FDS (σ : Sg) (k : Nat) (cl : List Cls) : Prop := (FdA σ (1000 + 5 * k) cl) ∧ (ClsM σ k cl) ∧ ((gi σ 117 k).toInt = (cl.length : Int)) ∧ (cl.length ≤ 10) ∧ (PW cl) ∧ ((toksOf cl).length ≤ 100)
noncomputable def TXT (σ : Sg) : Prop := (gi σ 0 7).toInt = (gi σ 74 13).toInt ∧ ∀ p : Nat, (p : Int) < (gi σ 0 7).toInt → (gi σ 50 p).toInt = (gi σ 116 p).toInt
noncomputable def HLD (σ : Sg) (c m : Nat) : Prop := ((gi σ 74 m).toInt = -1 ∧ gr σ c 10 = some 69) ∨ ∃ k : Nat, (gi σ 74 m).toInt = (k : Int) ∧ (k : Int) < (gi σ 74 11).toInt ∧ gr σ c 10 = some (1000 + 5 * k)
noncomputable def FLS (σ : Sg) : Prop := (gi σ 0 5).toInt = (gi σ 74 11).toInt ∧ (gi σ 0 5).toInt ≤ 6 ∧ (∀ k, k < 6 → gr σ 49 k = none ∨ gr σ 49 k = some (1000 + 5 * k)) ∧ (∀ k : Nat, (k : Int) < (gi σ 0 5).toInt → ∃ cl, FDS σ k cl)
noncomputable def RF0 (σ : Sg) : Prop := TXT σ ∧ FLS σ ∧ FdA σ 69 [] ∧ LTM σ
noncomputable def RF (σ : Sg) : Prop := RF0 σ ∧ HLD σ 1 12 ∧ HLD σ 17 50
theorem FdA_eq {σ σ' : Sg} {c0 : Nat} {cl : List Cls} (h : ∀ id k, c0 ≤ id → id ≤ c0 + 4 → gi σ' id k = gi σ id k) (q : FdA σ c0 cl) : FdA σ' c0 cl := by
  obtain ⟨⟨a1, a2⟩, ⟨b0, b1, b2⟩, c1, c2⟩ := q
  refine ⟨⟨by rw [h c0 8 (by omega) (by omega)]; exact a1, fun i c hc => ?_⟩, ⟨by rw [h c0 0 (by omega) (by omega)]; exact b0, by rw [h c0 1 (by omega) (by omega)]; exact b1, by rw [h c0 2 (by omega) (by omega)]; exact b2⟩, ⟨by rw [h c0 4 (by omega) (by omega)]; exact c1, fun j t ht => by rw [h (c0 + 1) j (by omega) (by omega)]; exact c2 j t ht⟩⟩
  rw [h (c0 + 2) i (by omega) (by omega), h (c0 + 3) i (by omega) (by omega), h (c0 + 4) i (by omega) (by omega)]
  exact a2 i c hc
theorem ClsM_eq {σ σ' : Sg} {k : Nat} {cl : List Cls} (h : ∀ i id, i < cl.length → 118 ≤ id → id ≤ 121 → gi σ' id (10 * k + i) = gi σ id (10 * k + i)) (g : ∀ j, j < 100 * k + (toksOf cl).length → gi σ' 122 j = gi σ 122 j) (q : ClsM σ k cl) : ClsM σ' k cl := by
  intro i c hc
  have hi := (List.getElem?_eq_some_iff.mp hc).1
  have ht := toks_take hc
  obtain ⟨q1, q2, q3, q4⟩ := q i c hc
  refine ⟨by rw [h i 118 hi (by decide) (by decide)]; exact q1, by rw [h i 119 hi (by decide) (by decide)]; exact q2, fun hw => by rw [h i 120 hi (by decide) (by decide), h i 121 hi (by decide) (by decide)]; exact q3 hw, fun j t hj => ?_⟩
  have := (List.getElem?_eq_some_iff.mp hj).1
  rw [g _ (by omega)]
  exact q4 j t hj
theorem HLD_eq {σ σ' : Sg} {c m : Nat} (h1 : (gi σ' 74 m).toInt = (gi σ 74 m).toInt) (h2 : (gi σ 74 11).toInt ≤ (gi σ' 74 11).toInt) (h3 : gr σ' c 10 = gr σ c 10) (q : HLD σ c m) : HLD σ' c m := by
  rcases q with ⟨a, b⟩ | ⟨k, a, b, c9⟩
  · exact Or.inl ⟨by omega, by rw [h3]; exact b⟩
  · exact Or.inr ⟨k, by omega, by omega, by rw [h3]; exact c9⟩
/-- a field's clauses stay, where its cells do -/
theorem FDS_eq {σ σ' : Sg} {k : Nat} {cl : List Cls} (h1 : ∀ id j, 1000 + 5 * k ≤ id → id ≤ 1000 + 5 * k + 4 → gi σ' id j = gi σ id j) (h2 : ∀ id j, 118 ≤ id → id ≤ 121 → j < 10 * k + 10 → gi σ' id j = gi σ id j) (h3 : ∀ j, j < 100 * k + 100 → gi σ' 122 j = gi σ 122 j) (h4 : gi σ' 117 k = gi σ 117 k) (q : FDS σ k cl) : FDS σ' k cl := by
  obtain ⟨q1, q2, q3, q4, q5, q6⟩ := q
  exact ⟨FdA_eq h1 q1, ClsM_eq (fun i id hi a b => h2 id _ a b (by omega)) (fun j hj => h3 j (by omega)) q2, by rw [h4]; exact q3, q4, q5, q6⟩
noncomputable def Rc0 (id k : Nat) : Prop := id = 50 ∨ (69 ≤ id ∧ id ≤ 73) ∨ (116 ≤ id ∧ id ≤ 122) ∨ id = 127 ∨ (1000 ≤ id ∧ id < 2000) ∨ (id = 0 ∧ (k = 5 ∨ k = 7)) ∨ (id = 74 ∧ (k = 11 ∨ k = 13))
theorem RF0_eq {σ σ' : Sg} (h : ∀ id k, Rc0 id k → gi σ' id k = gi σ id k) (g : ∀ k, gr σ' 49 k = gr σ 49 k) (q : RF0 σ) : RF0 σ' := by
  obtain ⟨⟨t1, t2⟩, ⟨f1, f0, f2, f3⟩, b, l⟩ := q
  have e5 : gi σ' 0 5 = gi σ 0 5 := h 0 5 (by unfold Rc0; omega)
  have e7 : gi σ' 0 7 = gi σ 0 7 := h 0 7 (by unfold Rc0; omega)
  refine ⟨⟨by rw [e7, h 74 13 (by unfold Rc0; omega)]; exact t1, fun p hp => ?_⟩, ⟨by rw [e5, h 74 11 (by unfold Rc0; omega)]; exact f1, by rw [e5]; exact f0, fun k hk => by rw [g]; exact f2 k hk, fun k hk => ?_⟩, FdA_eq (fun id k a c => h id k (by unfold Rc0; omega)) b, LTM_eq (fun k => h 127 k (by unfold Rc0; omega)) l⟩
  · rw [e7] at hp
    rw [h 50 p (by unfold Rc0; omega), h 116 p (by unfold Rc0; omega)]
    exact t2 p hp
  · rw [e5] at hk
    obtain ⟨cl, hcl⟩ := f3 k hk
    exact ⟨cl, FDS_eq (fun id j a c => h id j (by unfold Rc0; omega)) (fun id j a c _ => h id j (by unfold Rc0; omega)) (fun j _ => h 122 j (by unfold Rc0; omega)) (h 117 k (by unfold Rc0; omega)) hcl⟩
theorem RF0_x {S : Nat → Prop} {F : Nat → Nat → Prop} {σ σ' : Sg} (f : FX S F σ σ') (h1 : ∀ id k, Rc0 id k → ¬ S id ∧ ¬ F id k) (h2 : ∀ k, ¬ S 49 ∧ ¬ F 49 k) (q : RF0 σ) : RF0 σ' :=
  RF0_eq (fun id k hk => f.1 id k (h1 id k hk).1 (h1 id k hk).2) (fun k => f.2.2 49 k (h2 k).1 (h2 k).2) q
theorem RF_x {S : Nat → Prop} {F : Nat → Nat → Prop} {σ σ' : Sg} (f : FX S F σ σ') (h1 : ∀ id k, Rc0 id k ∨ (id = 74 ∧ (k = 12 ∨ k = 50)) → ¬ S id ∧ ¬ F id k) (h2 : ∀ k, ¬ S 49 ∧ ¬ F 49 k) (h3 : ¬ S 1 ∧ ¬ F 1 10) (h4 : ¬ S 17 ∧ ¬ F 17 10) (q : RF σ) : RF σ' := by
  have e : ∀ id k, Rc0 id k ∨ (id = 74 ∧ (k = 12 ∨ k = 50)) → gi σ' id k = gi σ id k := fun id k hk => f.1 id k (h1 id k hk).1 (h1 id k hk).2
  have e11 : gi σ' 74 11 = gi σ 74 11 := e 74 11 (Or.inl (by unfold Rc0; omega))
  exact ⟨RF0_eq (fun id k hk => e id k (Or.inl hk)) (fun k => f.2.2 49 k (h2 k).1 (h2 k).2) q.1, HLD_eq (by rw [e 74 12 (Or.inr ⟨rfl, Or.inl rfl⟩)]) (by rw [e11]; exact Int.le_refl _) (f.2.2 1 10 h3.1 h3.2) q.2.1, HLD_eq (by rw [e 74 50 (Or.inr ⟨rfl, Or.inr rfl⟩)]) (by rw [e11]; exact Int.le_refl _) (f.2.2 17 10 h4.1 h4.2) q.2.2⟩
theorem RF0_m {S F : List Nat} {σ σ' : Sg} (f : Fr S F σ σ') (h : ∀ id ∈ S, (74 ≤ id ∧ id < 116) ∨ (123 ≤ id ∧ id < 127) ∨ (128 ≤ id ∧ id < 1000)) (hF : ∀ k ∈ F, k ≠ 11 ∧ k ≠ 13) (q : RF0 σ) : RF0 σ' := by
  refine RF0_eq (fun id k hk => ?_) (fun k => congrFun (congrFun f.2.2 49) k) q
  by_cases e : id = 74
  · subst e
    exact f.2.1 k (fun z => by have := hF k z; unfold Rc0 at hk; omega)
  · exact congrFun (f.1 id (fun z => by have := h id z; unfold Rc0 at hk; omega)).1 k
theorem RF_m {S F : List Nat} {σ σ' : Sg} (f : Fr S F σ σ') (h : ∀ id ∈ S, (74 ≤ id ∧ id < 116) ∨ (123 ≤ id ∧ id < 127) ∨ (128 ≤ id ∧ id < 1000)) (hF : ∀ k ∈ F, k ≠ 11 ∧ k ≠ 12 ∧ k ≠ 13 ∧ k ≠ 50) (q : RF σ) : RF σ' := by
  have e : ∀ k, k = 11 ∨ k = 12 ∨ k = 50 → gi σ' 74 k = gi σ 74 k := fun k hk => f.2.1 k (fun z => by have := hF k z; omega)
  exact ⟨RF0_m f h (fun k hk => ⟨(hF k hk).1, (hF k hk).2.2.1⟩) q.1, HLD_eq (by rw [e 12 (by omega)]) (by rw [e 11 (by omega)]; exact Int.le_refl _) (congrFun (congrFun f.2.2 1) 10) q.2.1, HLD_eq (by rw [e 50 (by omega)]) (by rw [e 11 (by omega)]; exact Int.le_refl _) (congrFun (congrFun f.2.2 17) 10) q.2.2⟩
theorem RF_image {σ σ1 σ2 : Sg} (q : RF σ) (f : FX (fun id => id = 18 ∨ id = 19 ∨ id = 20 ∨ id = 21 ∨ id = 22 ∨ id = 23 ∨ id = 24 ∨ id = 26 ∨ id = 28 ∨ id = 30) (fun id k => (id = 0 ∧ k = 3) ∨ (id = 17 ∧ k = 1) ∨ (id = 17 ∧ k = 3) ∨ (id = 17 ∧ k = 9) ∨ (id = 17 ∧ k = 10) ∨ (id = 17 ∧ k = 11) ∨ (id = 25 ∧ k = 1) ∨ (id = 27 ∧ k = 1) ∨ (id = 29 ∧ k = 1)) σ σ1) (y : CPY σ σ1 17 1) (g : Fr [74, 156, 157, 158, 159, 160, 161, 162, 163, 164, 165, 166, 167, 168] [49, 50, 51, 52, 53, 54, 55] σ1 σ2) (h50 : (gi σ2 74 50).toInt = (gi σ1 74 12).toInt) : RF σ2 := by
  have e1 : ∀ k, gi σ1 74 k = gi σ 74 k := fun k => f.1 74 k (by intro z; (try dsimp only at z); omega) (by intro z; (try dsimp only at z); omega)
  have e11 : gi σ2 74 11 = gi σ 74 11 := by rw [g.2.1 11 (by decide), e1]
  have e12 : gi σ2 74 12 = gi σ 74 12 := by rw [g.2.1 12 (by decide), e1]
  have gr2 : ∀ id k, gr σ2 id k = gr σ1 id k := fun id k => congrFun (congrFun g.2.2 id) k
  refine ⟨RF0_m g (by decide) (by decide) (RF0_x f (fun id k hk => ⟨?_, ?_⟩) (fun k => ⟨?_, ?_⟩) q.1), HLD_eq (by rw [e12]) (by rw [e11]; exact Int.le_refl _) ?_ q.2.1, ?_⟩
  · intro z; unfold Rc0 at hk; (try dsimp only at z); omega
  · intro z; unfold Rc0 at hk; (try dsimp only at z); omega
  · intro z; (try dsimp only at z); omega
  · intro z; (try dsimp only at z); omega
  · rw [gr2]
    exact f.2.2 1 10 (by intro z; (try dsimp only at z); omega) (by intro z; (try dsimp only at z); omega)
  · have r17 : gr σ2 17 10 = gr σ 1 10 := by rw [gr2]; exact y.1.2.2.2.2
    have i50 : (gi σ2 74 50).toInt = (gi σ 74 12).toInt := by rw [h50, e1]
    rcases q.2.1 with ⟨a, b⟩ | ⟨k, a, b, c⟩
    · exact Or.inl ⟨by omega, by rw [r17]; exact b⟩
    · exact Or.inr ⟨k, by omega, by rw [e11]; exact b, by rw [r17]; exact c⟩
theorem mundo74 : ∀ n b x σ k, gi (LF_X12_undo n b x σ).2 74 k = gi σ 74 k := by
  intro n
  induction n with
  | zero => intro b x σ k; rfl
  | succ n ih =>
    intro b x σ k
    rcases b with _ | _ | _ | _ | b
    · show gi (LB_X12_undo_68 (LF_X12_undo n) x σ).2 74 k = _
      unfold LB_X12_undo_68
      by_cases h : (6 : Int32) ≤ x
      · rw [if_pos h]; exact ih _ _ _ _
      · rw [if_neg h]
        simp only [fl_e]
        rw [ih]
        repeat rw [gi_si_ne (Or.inl (by decide))]
    · show gi (LB_X12_undo_202 (LF_X12_undo n) x σ).2 74 k = _
      unfold LB_X12_undo_202
      by_cases h : (24 : Int32) ≤ x
      · rw [if_pos h]; exact ih _ _ _ _
      · rw [if_neg h]
        simp only [fl_e]
        rw [ih]
        repeat rw [gi_si_ne (Or.inl (by decide))]
    · show gi (LB_X12_undo_228 (LF_X12_undo n) x σ).2 74 k = _
      unfold LB_X12_undo_228
      by_cases h : (10 : Int32) ≤ x
      · rw [if_pos h]; exact ih _ _ _ _
      · rw [if_neg h]
        simp only [fl_e]
        rw [ih]
        repeat rw [gi_si_ne (Or.inl (by decide))]
    · show gi (LB_X12_undo_254 (LF_X12_undo n) x σ).2 74 k = _
      unfold LB_X12_undo_254
      by_cases h : (8 : Int32) ≤ x
      · rw [if_pos h]
      · rw [if_neg h]
        simp only [fl_e]
        rw [ih]
        repeat rw [gi_si_ne (Or.inl (by decide))]
    · rfl
theorem mundo12 {σ σ' : Sg} {r : Int32} (hf : F_X12_undo σ = (r, σ')) (hz : ¬ gi σ 74 49 = 0) : gi σ' 74 12 = gi σ 74 50 := by
  unfold F_X12_undo at hf
  rw [if_neg hz] at hf
  simp only [fl_e] at hf
  have e : σ' = (r, σ').2 := rfl
  rw [e, ← hf, mundo74, gi_si_ne (Or.inr (by decide)), gi_si_ne (Or.inr (by decide)), gi_si_ne (Or.inr (by decide)), gi_si_ne (Or.inr (by decide)), gi_si_ne (Or.inr (by decide)), gi_si_ne (Or.inr (by decide)), gi_si_eq]
theorem RF_undo {r2 : Int32} {σ σ1 σ2 : Sg} (ht : (gi σ 0 3).toInt = (gi σ 74 49).toInt) (q : RF σ) (f : FX (fun id => id = 10 ∨ id = 12 ∨ id = 14 ∨ id = 2 ∨ id = 3 ∨ id = 4 ∨ id = 5 ∨ id = 6 ∨ id = 7 ∨ id = 8) (fun id k => (id = 1 ∧ k = 1) ∨ (id = 1 ∧ k = 3) ∨ (id = 1 ∧ k = 9) ∨ (id = 1 ∧ k = 10) ∨ (id = 1 ∧ k = 11) ∨ (id = 11 ∧ k = 1) ∨ (id = 13 ∧ k = 1) ∨ (id = 9 ∧ k = 1)) σ σ1) (y0 : (gi σ 0 3).toInt ≠ 0 → CPY σ σ1 1 17) (y9 : (gi σ 0 3).toInt = 0 → σ1 = σ) (g : Fr [74, 103, 104, 105, 106, 107, 108, 109, 110, 142, 143, 144, 147, 148] [0, 1, 2, 12, 41, 45, 46] σ1 σ2) (h2 : F_X12_undo σ1 = (r2, σ2)) : RF σ2 := by
  by_cases z : (gi σ 0 3).toInt = 0
  · have e := y9 z
    subst e
    have e49 : gi σ1 74 49 = 0 := i_eq (b := (0 : Int32)) (by show (gi σ1 74 49).toInt = 0; omega)
    unfold F_X12_undo at h2
    rw [if_pos e49] at h2
    rw [← (Prod.mk.inj h2).2]
    exact q
  have e1 : ∀ k, gi σ1 74 k = gi σ 74 k := fun k => f.1 74 k (by intro z; (try dsimp only at z); omega) (by intro z; (try dsimp only at z); omega)
  have hz : ¬ gi σ1 74 49 = 0 := fun e => by
    rw [e1] at e
    have e2 : (gi σ 74 49).toInt = 0 := congrArg Int32.toInt e
    omega
  have e12 := mundo12 h2 hz
  have e11 : gi σ2 74 11 = gi σ 74 11 := by rw [g.2.1 11 (by decide), e1]
  have e50 : gi σ2 74 50 = gi σ 74 50 := by rw [g.2.1 50 (by decide), e1]
  have gr2 : ∀ id k, gr σ2 id k = gr σ1 id k := fun id k => congrFun (congrFun g.2.2 id) k
  refine ⟨RF0_m g (by decide) (by decide) (RF0_x f (fun id k hk => ⟨?_, ?_⟩) (fun k => ⟨?_, ?_⟩) q.1), ?_, HLD_eq (by rw [e50]) (by rw [e11]; exact Int.le_refl _) ?_ q.2.2⟩
  · intro z; unfold Rc0 at hk; (try dsimp only at z); omega
  · intro z; unfold Rc0 at hk; (try dsimp only at z); omega
  · intro z; (try dsimp only at z); omega
  · intro z; (try dsimp only at z); omega
  · have r1 : gr σ2 1 10 = gr σ 17 10 := by rw [gr2]; exact (y0 z).1.2.2.2.2
    have i12 : (gi σ2 74 12).toInt = (gi σ 74 50).toInt := by rw [e12, e1]
    rcases q.2.2 with ⟨a, b⟩ | ⟨k, a, b, c⟩
    · exact Or.inl ⟨by omega, by rw [r1]; exact b⟩
    · exact Or.inr ⟨k, by omega, by rw [e11]; exact b, by rw [r1]; exact c⟩
  · rw [gr2]
    exact f.2.2 17 10 (by intro z; (try dsimp only at z); omega) (by intro z; (try dsimp only at z); omega)
theorem nar_b : ∀ n, n < 128 → vp_nar .byte (Int32.ofNat n).toInt8.toInt32 = Int32.ofNat n := by decide +kernel
theorem RF_feed {a1 r1 r2 : Int32} {σ σ1 σ2 : Sg} (h7 : 0 ≤ (gi σ 0 7).toInt ∧ (gi σ 0 7).toInt ≤ 100) (q : RF σ) (h1 : F_X11_feed a1 σ = (r1, σ1)) (h2 : F_X12_feed a1 σ1 = (r2, σ2)) : RF σ2 ∧ r1 = r2 := by
  obtain ⟨⟨⟨t1, t2⟩, fl9, b9, l9⟩, d1, d2⟩ := q
  have z0 : (0 : Int32).toInt = 0 := rfl
  have z100 : (100 : Int32).toInt = 100 := rfl
  have z127 : (127 : Int32).toInt = 127 := rfl
  have q0 : RF σ := ⟨⟨⟨t1, t2⟩, fl9, b9, l9⟩, d1, d2⟩
  unfold F_X11_feed at h1
  unfold F_X12_feed F_X12_in at h2
  by_cases c1 : a1 < 0
  · rw [if_pos c1] at h1 h2
    rw [fb_e, if_pos rfl] at h2
    cases h1; cases h2
    exact ⟨q0, rfl⟩
  · rw [if_neg c1] at h1 h2
    have c1' : ¬ a1.toInt < 0 := fun h9 => c1 (Int32.lt_iff_toInt_lt.mpr h9)
    by_cases c2 : a1 ≤ (127 : Int32)
    · have c2' := Int32.le_iff_toInt_le.mp c2
      rw [if_pos c2] at h1
      rw [if_neg (show ¬ (127 : Int32) < a1 from fun h9 => by have := Int32.lt_iff_toInt_lt.mp h9; omega), fb_e, if_neg (show ¬ (1 : Int32) = 0 by decide)] at h2
      by_cases c3 : gi σ 0 7 < (100 : Int32)
      · have c3' := Int32.lt_iff_toInt_lt.mp c3
        rw [if_pos c3] at h1
        simp only [fl_e] at h1
        have en : a1 = Int32.ofNat a1.toNatClampNeg := nI_ofI (by omega)
        have ea := cl_eq (x := a1) (by omega)
        have ev : vp_nar .byte a1.toInt8.toInt32 = a1 := by rw [en]; exact nar_b _ (by omega)
        rw [ev] at h1
        have ec := cl_eq (x := gi σ 0 7) h7.1
        have ed := cl_eq (x := gi σ 74 13) (by omega)
        obtain ⟨n, hn⟩ : ∃ n : Nat, n = (gi σ 0 7).toNatClampNeg := ⟨_, rfl⟩
        have hn2 : (gi σ 74 13).toNatClampNeg = n := by omega
        rw [← hn] at h1
        have t9 : ((gi σ 0 7) + (1 : Int32)).toInt = (gi σ 0 7).toInt + 1 := i_add (y := (1 : Int32)) (by show (_ : Int) ≤ (gi σ 0 7).toInt + 1; omega) (by show (gi σ 0 7).toInt + 1 ≤ (_ : Int); omega)
        have t8 : ((gi σ 74 13) + (1 : Int32)).toInt = (gi σ 74 13).toInt + 1 := i_add (y := (1 : Int32)) (by show (_ : Int) ≤ (gi σ 74 13).toInt + 1; omega) (by show (gi σ 74 13).toInt + 1 ≤ (_ : Int); omega)
        rw [gi_si_ne (show (0 : Nat) ≠ 50 ∨ _ from Or.inl (by decide)), gi_si_eq] at h1
        have s1 : σ1 = si (si σ 50 n a1) 0 7 ((gi σ 0 7) + (1 : Int32)) := (Prod.mk.inj h1).2.symm
        have p1 : r1 = (gi σ 0 7) + (1 : Int32) := (Prod.mk.inj h1).1.symm
        have g13 : gi σ1 74 13 = gi σ 74 13 := by rw [s1, gi_si_ne (Or.inl (by decide)), gi_si_ne (Or.inl (by decide))]
        rw [g13, if_neg (show ¬ gi σ 74 13 = (100 : Int32) from fun h9 => by rw [h9] at t1; omega), hn2] at h2
        simp only [fl_e] at h2
        rw [gi_si_ne (show (74 : Nat) ≠ 116 ∨ _ from Or.inl (by decide)), g13, gi_si_eq] at h2
        have s2 : σ2 = si (si σ1 116 n a1) 74 13 ((gi σ 74 13) + (1 : Int32)) := (Prod.mk.inj h2).2.symm
        have p2 : r2 = (gi σ 74 13) + (1 : Int32) := (Prod.mk.inj h2).1.symm
        have gI : ∀ id k, id ≠ 50 → id ≠ 116 → (id ≠ 0 ∨ k ≠ 7) → (id ≠ 74 ∨ k ≠ 13) → gi σ2 id k = gi σ id k := fun id k a b c d => by
          rw [s2, gi_si_ne d, gi_si_ne (Or.inl b), s1, gi_si_ne c, gi_si_ne (Or.inl a)]
        have gR : ∀ id k, gr σ2 id k = gr σ id k := fun id k => by rw [s2, s1]; rfl
        have g7 : gi σ2 0 7 = (gi σ 0 7) + (1 : Int32) := by rw [s2, gi_si_ne (Or.inl (by decide)), gi_si_ne (Or.inl (by decide)), s1, gi_si_eq]
        have g74 : gi σ2 74 13 = (gi σ 74 13) + (1 : Int32) := by rw [s2, gi_si_eq]
        obtain ⟨f1, f0, f2, f3⟩ := fl9
        refine ⟨⟨⟨⟨by rw [g7, g74, t9, t8]; omega, fun p hp => ?_⟩, ⟨by rw [gI 0 5 (by decide) (by decide) (by decide) (by decide), gI 74 11 (by decide) (by decide) (by decide) (by decide)]; exact f1, by rw [gI 0 5 (by decide) (by decide) (by decide) (by decide)]; exact f0, fun k hk => by rw [gR]; exact f2 k hk, fun k hk => ?_⟩, FdA_eq (fun id k a c => gI id k (by omega) (by omega) (by omega) (by omega)) b9, LTM_eq (fun k => gI 127 k (by omega) (by omega) (by omega) (by omega)) l9⟩, HLD_eq (by rw [gI 74 12 (by decide) (by decide) (by decide) (by decide)]) (by rw [gI 74 11 (by decide) (by decide) (by decide) (by decide)]; exact Int.le_refl _) (gR 1 10) d1, HLD_eq (by rw [gI 74 50 (by decide) (by decide) (by decide) (by decide)]) (by rw [gI 74 11 (by decide) (by decide) (by decide) (by decide)]; exact Int.le_refl _) (gR 17 10) d2⟩, ?_⟩
        · rw [g7, t9] at hp
          rw [s2, gi_si_ne (Or.inl (by decide)), gi_si_ne (Or.inl (by decide)), gi_si_ne (show (116 : Nat) ≠ 74 ∨ _ from Or.inl (by decide)), s1, gi_si_ne (Or.inl (by decide)), gi_si, gi_si]
          by_cases hpn : p = n
          · rw [if_pos ⟨rfl, hpn⟩, if_pos ⟨rfl, hpn⟩]
          · rw [if_neg (fun h9 => hpn h9.2), if_neg (fun h9 => hpn h9.2), gi_si_ne (Or.inl (by decide)), gi_si_ne (Or.inl (by decide))]
            exact t2 p (by omega)
        · rw [gI 0 5 (by decide) (by decide) (by decide) (by decide)] at hk
          obtain ⟨cl, hcl⟩ := f3 k hk
          exact ⟨cl, FDS_eq (fun id j a c => gI id j (by omega) (by omega) (by omega) (by omega)) (fun id j a c _ => gI id j (by omega) (by omega) (by omega) (by omega)) (fun j _ => gI 122 j (by omega) (by omega) (by omega) (by omega)) (gI 117 k (by omega) (by omega) (by omega) (by omega)) hcl⟩
        · rw [p1, p2]; exact Int32.toInt_inj.mp (by omega)
      · have c3' : ¬ (gi σ 0 7).toInt < (100 : Int32).toInt := fun h9 => c3 (Int32.lt_iff_toInt_lt.mpr h9)
        rw [if_neg c3] at h1
        cases h1
        rw [if_pos (show gi σ 74 13 = (100 : Int32) from Int32.toInt_inj.mp (by omega))] at h2
        cases h2
        exact ⟨q0, rfl⟩
    · have c2' : ¬ a1.toInt ≤ (127 : Int32).toInt := fun h9 => c2 (Int32.le_iff_toInt_le.mpr h9)
      rw [if_neg c2] at h1
      rw [if_pos (show (127 : Int32) < a1 from Int32.lt_iff_toInt_lt.mpr (by omega)), fb_e, if_pos rfl] at h2
      cases h1; cases h2
      exact ⟨q0, rfl⟩
