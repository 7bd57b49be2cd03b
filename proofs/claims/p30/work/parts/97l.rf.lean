/-! texts and fields, alike in both -/
noncomputable abbrev FdA (σ : Sg) (c0 : Nat) (cl : List Cls) : Prop := (FdR σ c0 cl) ∧ (FdN σ c0 cl) ∧ (CDc σ c0 (toksOf cl))
noncomputable abbrev FDS (σ : Sg) (k : Nat) (cl : List Cls) : Prop := (FdA σ (1000 + 5 * k) cl) ∧ (ClsM σ k cl) ∧ ((gi σ 117 k).toInt = (cl.length : Int)) ∧ (cl.length ≤ 10) ∧ (PW cl) ∧ ((toksOf cl).length ≤ 100)
noncomputable def TXT (σ : Sg) : Prop := (gi σ 0 7).toInt = (gi σ 74 13).toInt ∧ ∀ p : Nat, (p : Int) < (gi σ 0 7).toInt → (gi σ 50 p).toInt = (gi σ 116 p).toInt
noncomputable def HLD (σ : Sg) (c m : Nat) : Prop := ((gi σ 74 m).toInt = -1 ∧ gr σ c 10 = some 69) ∨ ∃ k : Nat, (gi σ 74 m).toInt = (k : Int) ∧ (k : Int) < (gi σ 74 11).toInt ∧ gr σ c 10 = some (1000 + 5 * k)
noncomputable def FLS (σ : Sg) : Prop := (gi σ 0 5).toInt = (gi σ 74 11).toInt ∧ (gi σ 0 5).toInt ≤ 6 ∧ (∀ k, k < 6 → gr σ 49 k = none ∨ gr σ 49 k = some (1000 + 5 * k)) ∧ (∀ k : Nat, (k : Int) < (gi σ 0 5).toInt → ∃ cl, FDS σ k cl)
noncomputable def RF0 (σ : Sg) : Prop := TXT σ ∧ FLS σ ∧ FdA σ 69 [] ∧ LTM σ
noncomputable def RF (σ : Sg) : Prop := RF0 σ ∧ HLD σ 1 12 ∧ HLD σ 17 50
theorem FdA_eq {σ σ' : Sg} {c0 : Nat} {cl : List Cls} (h : ∀ id k, c0 ≤ id → id ≤ c0 + 4 → gi σ' id k = gi σ id k) (q : FdA σ c0 cl) : FdA σ' c0 cl := by
  obtain ⟨⟨a1, a2⟩, ⟨b0, b1, b2⟩, c1, c2⟩ := q
  refine ⟨⟨by rw [h c0 8 (by omega) (by omega)]; exact a1, fun i c hc => ?_⟩, ⟨by rw [h c0 0 (by omega) (by omega)]; exact b0, by rw [h c0 1 (by omega) (by omega)]; exact b1, by rw [h c0 2 (by omega) (by omega)]; exact b2⟩, ⟨by rw [h c0 4 (by omega) (by omega)]; exact c1, fun j t ht => by rw [h (c0 + 1) j (by omega) (by omega)]; exact c2 j t ht⟩⟩
  rw [h (c0 + 2) i (by omega) (by omega), h (c0 + 3) i (by omega) (by omega), h (c0 + 4) i (by omega) (by omega)]
  exact a2 i c hc
theorem ClsM_eq {σ σ' : Sg} {k : Nat} {cl : List Cls} (h : ∀ i id, i < cl.length → 118 ≤ id → id ≤ 121 → gi σ' id (10 * k + i) = gi σ id (10 * k + i)) (g : ∀ j, j < 100 * k + (toksOf cl).length → gi σ' 122 j = gi σ 122 j) (q : ClsM σ k cl) : ClsM σ' k cl := by
  intro i c hc
  have hi := (List.getElem?_eq_some_iff.mp hc).1
  have ht := toks_take hc
  obtain ⟨q1, q2, q3, q4⟩ := q i c hc
  refine ⟨by rw [h i 118 hi (by decide +kernel) (by decide +kernel)]; exact q1, by rw [h i 119 hi (by decide +kernel) (by decide +kernel)]; exact q2, fun hw => by rw [h i 120 hi (by decide +kernel) (by decide +kernel), h i 121 hi (by decide +kernel) (by decide +kernel)]; exact q3 hw, fun j t hj => ?_⟩
  have := (List.getElem?_eq_some_iff.mp hj).1
  rw [g _ (by omega)]
  exact q4 j t hj
theorem HLD_eq {σ σ' : Sg} {c m : Nat} (h1 : (gi σ' 74 m).toInt = (gi σ 74 m).toInt) (h2 : (gi σ 74 11).toInt ≤ (gi σ' 74 11).toInt) (h3 : gr σ' c 10 = gr σ c 10) (q : HLD σ c m) : HLD σ' c m := by
  rcases q with ⟨a, b⟩ | ⟨k, a, b, c9⟩
  · exact Or.inl ⟨by omega, by rw [h3]; exact b⟩
  · exact Or.inr ⟨k, by omega, by omega, by rw [h3]; exact c9⟩
/-- a field's clauses stay, where its cells do -/
theorem FDS_eq {σ σ' : Sg} {k : Nat} {cl : List Cls} (h1 : ∀ id j, 1000 + 5 * k ≤ id → id ≤ 1000 + 5 * k + 4 → gi σ' id j = gi σ id j) (h2 : ∀ id j, 118 ≤ id → id ≤ 121 → j < 10 * k + 10 → gi σ' id j = gi σ id j) (h3 : ∀ j, j < 100 * k + 100 → gi σ' 122 j = gi σ 122 j) (h4 : gi σ' 117 k = gi σ 117 k) (q : FDS σ k cl) : FDS σ' k cl := by
  obtain ⟨q1, q2, q3, q4, q5, q6⟩ := q
  exact ⟨FdA_eq h1 q1, ClsM_eq (fun i id hi a b => h2 id _ a b (by omega)) (fun j hj => h3 j (by omega)) q2, by rw [h4]; exact q3, q4, q5, q6⟩
noncomputable def Rc0 (id k : Nat) : Prop := id = 50 ∨ (69 ≤ id ∧ id ≤ 73) ∨ (116 ≤ id ∧ id ≤ 122) ∨ id = 127 ∨ (1000 ≤ id ∧ id < 2000) ∨ (id = 0 ∧ (k = 5 ∨ k = 7)) ∨ (id = 74 ∧ (k = 11 ∨ k = 13))
theorem RF0_eq {σ σ' : Sg} (h : ∀ id k, Rc0 id k → gi σ' id k = gi σ id k) (g : ∀ k, gr σ' 49 k = gr σ 49 k) (q : RF0 σ) : RF0 σ' := by
  obtain ⟨⟨t1, t2⟩, ⟨f1, f0, f2, f3⟩, b, l⟩ := q
  have e5 : gi σ' 0 5 = gi σ 0 5 := h 0 5 (by unfold Rc0; omega)
  have e7 : gi σ' 0 7 = gi σ 0 7 := h 0 7 (by unfold Rc0; omega)
  refine ⟨⟨by rw [e7, h 74 13 (by unfold Rc0; omega)]; exact t1, fun p hp => ?_⟩, ⟨by rw [e5, h 74 11 (by unfold Rc0; omega)]; exact f1, by rw [e5]; exact f0, fun k hk => by rw [g]; exact f2 k hk, fun k hk => ?_⟩, FdA_eq (fun id k a c => h id k (by unfold Rc0; omega)) b, LTM_eq (fun k => h 127 k (by unfold Rc0; omega)) l⟩
  · rw [e7] at hp
    rw [h 50 p (by unfold Rc0; omega), h 116 p (by unfold Rc0; omega)]
    exact t2 p hp
  · rw [e5] at hk
    obtain ⟨cl, hcl⟩ := f3 k hk
    exact ⟨cl, FDS_eq (fun id j a c => h id j (by unfold Rc0; omega)) (fun id j a c _ => h id j (by unfold Rc0; omega)) (fun j _ => h 122 j (by unfold Rc0; omega)) (h 117 k (by unfold Rc0; omega)) hcl⟩
theorem RF0_x {S : Nat → Prop} {F : Nat → Nat → Prop} {σ σ' : Sg} (f : FX S F σ σ') (h1 : ∀ id k, Rc0 id k → ¬ S id ∧ ¬ F id k) (h2 : ∀ k, ¬ S 49 ∧ ¬ F 49 k) (q : RF0 σ) : RF0 σ' :=
  RF0_eq (fun id k hk => f.1 id k (h1 id k hk).1 (h1 id k hk).2) (fun k => f.2.2 49 k (h2 k).1 (h2 k).2) q
theorem RF_x {S : Nat → Prop} {F : Nat → Nat → Prop} {σ σ' : Sg} (f : FX S F σ σ') (h1 : ∀ id k, Rc0 id k ∨ (id = 74 ∧ (k = 12 ∨ k = 50)) → ¬ S id ∧ ¬ F id k) (h2 : ∀ k, ¬ S 49 ∧ ¬ F 49 k) (h3 : ¬ S 1 ∧ ¬ F 1 10) (h4 : ¬ S 17 ∧ ¬ F 17 10) (q : RF σ) : RF σ' := by
  have e : ∀ id k, Rc0 id k ∨ (id = 74 ∧ (k = 12 ∨ k = 50)) → gi σ' id k = gi σ id k := fun id k hk => f.1 id k (h1 id k hk).1 (h1 id k hk).2
  have e11 : gi σ' 74 11 = gi σ 74 11 := e 74 11 (Or.inl (by unfold Rc0; omega))
  exact ⟨RF0_eq (fun id k hk => e id k (Or.inl hk)) (fun k => f.2.2 49 k (h2 k).1 (h2 k).2) q.1, HLD_eq (by rw [e 74 12 (Or.inr ⟨rfl, Or.inl rfl⟩)]) (by rw [e11]; exact Int.le_refl _) (f.2.2 1 10 h3.1 h3.2) q.2.1, HLD_eq (by rw [e 74 50 (Or.inr ⟨rfl, Or.inr rfl⟩)]) (by rw [e11]; exact Int.le_refl _) (f.2.2 17 10 h4.1 h4.2) q.2.2⟩
theorem RF0_m {S F : List Nat} {σ σ' : Sg} (f : Fr S F σ σ') (h : ∀ id ∈ S, (74 ≤ id ∧ id < 116) ∨ (123 ≤ id ∧ id < 127) ∨ (128 ≤ id ∧ id < 1000)) (hF : ∀ k ∈ F, k ≠ 11 ∧ k ≠ 13) (q : RF0 σ) : RF0 σ' := by
  refine RF0_eq (fun id k hk => ?_) (fun k => congrFun (congrFun f.2.2 49) k) q
  by_cases e : id = 74
  · subst e
    exact f.2.1 k (fun z => by have := hF k z; unfold Rc0 at hk; omega)
  · exact congrFun (f.1 id (fun z => by have := h id z; unfold Rc0 at hk; omega)).1 k
theorem RF_m {S F : List Nat} {σ σ' : Sg} (f : Fr S F σ σ') (h : ∀ id ∈ S, (74 ≤ id ∧ id < 116) ∨ (123 ≤ id ∧ id < 127) ∨ (128 ≤ id ∧ id < 1000)) (hF : ∀ k ∈ F, k ≠ 11 ∧ k ≠ 12 ∧ k ≠ 13 ∧ k ≠ 50) (q : RF σ) : RF σ' := by
  have e : ∀ k, k = 11 ∨ k = 12 ∨ k = 50 → gi σ' 74 k = gi σ 74 k := fun k hk => f.2.1 k (fun z => by have := hF k z; omega)
  exact ⟨RF0_m f h (fun k hk => ⟨(hF k hk).1, (hF k hk).2.2.1⟩) q.1, HLD_eq (by rw [e 12 (by omega)]) (by rw [e 11 (by omega)]; exact Int.le_refl _) (congrFun (congrFun f.2.2 1) 10) q.2.1, HLD_eq (by rw [e 50 (by omega)]) (by rw [e 11 (by omega)]; exact Int.le_refl _) (congrFun (congrFun f.2.2 17) 10) q.2.2⟩
theorem RF_image {σ σ1 σ2 : Sg} (q : RF σ) (f : FX (fun id => id = 18 ∨ id = 19 ∨ id = 20 ∨ id = 21 ∨ id = 22 ∨ id = 23 ∨ id = 24 ∨ id = 26 ∨ id = 28 ∨ id = 30) (fun id k => (id = 0 ∧ k = 3) ∨ (id = 17 ∧ k = 1) ∨ (id = 17 ∧ k = 3) ∨ (id = 17 ∧ k = 9) ∨ (id = 17 ∧ k = 10) ∨ (id = 17 ∧ k = 11) ∨ (id = 25 ∧ k = 1) ∨ (id = 27 ∧ k = 1) ∨ (id = 29 ∧ k = 1)) σ σ1) (y : CPY σ σ1 17 1) (g : Fr [74, 156, 157, 158, 159, 160, 161, 162, 163, 164, 165, 166, 167, 168] [49, 50, 51, 52, 53, 54, 55] σ1 σ2) (h50 : (gi σ2 74 50).toInt = (gi σ1 74 12).toInt) : RF σ2 := by
  have e1 : ∀ k, gi σ1 74 k = gi σ 74 k := fun k => f.1 74 k (by intro z; (try dsimp only at z); omega) (by intro z; (try dsimp only at z); omega)
  have e11 : gi σ2 74 11 = gi σ 74 11 := by rw [g.2.1 11 (by decide +kernel), e1]
  have e12 : gi σ2 74 12 = gi σ 74 12 := by rw [g.2.1 12 (by decide +kernel), e1]
  have gr2 : ∀ id k, gr σ2 id k = gr σ1 id k := fun id k => congrFun (congrFun g.2.2 id) k
  refine ⟨RF0_m g (by decide +kernel) (by decide +kernel) (RF0_x f (fun id k hk => ⟨?_, ?_⟩) (fun k => ⟨?_, ?_⟩) q.1), HLD_eq (by rw [e12]) (by rw [e11]; exact Int.le_refl _) ?_ q.2.1, ?_⟩
  · intro z; unfold Rc0 at hk; (try dsimp only at z); omega
  · intro z; unfold Rc0 at hk; (try dsimp only at z); omega
  · intro z; (try dsimp only at z); omega
  · intro z; (try dsimp only at z); omega
  · rw [gr2]
    exact f.2.2 1 10 (by intro z; (try dsimp only at z); omega) (by intro z; (try dsimp only at z); omega)
  · have r17 : gr σ2 17 10 = gr σ 1 10 := by rw [gr2]; exact y.1.2.2.2.2
    have i50 : (gi σ2 74 50).toInt = (gi σ 74 12).toInt := by rw [h50, e1]
    rcases q.2.1 with ⟨a, b⟩ | ⟨k, a, b, c⟩
    · exact Or.inl ⟨by omega, by rw [r17]; exact b⟩
    · exact Or.inr ⟨k, by omega, by rw [e11]; exact b, by rw [r17]; exact c⟩
theorem mundo74 : ∀ n b x σ k, gi (LF_X12_undo n b x σ).2 74 k = gi σ 74 k := by
  intro n
  induction n with
  | zero => intro b x σ k; rfl
  | succ n ih =>
    intro b x σ k
    rcases b with _ | _ | _ | _ | b
    · show gi (LB_X12_undo_68 (LF_X12_undo n) x σ).2 74 k = _
      unfold LB_X12_undo_68
      by_cases h : (6 : Int32) ≤ x
      · rw [if_pos h]; exact ih _ _ _ _
      · rw [if_neg h]
        simp only [fl_e]
        rw [ih]
        repeat rw [gi_si_ne (Or.inl (by decide +kernel))]
    · show gi (LB_X12_undo_202 (LF_X12_undo n) x σ).2 74 k = _
      unfold LB_X12_undo_202
      by_cases h : (24 : Int32) ≤ x
      · rw [if_pos h]; exact ih _ _ _ _
      · rw [if_neg h]
        simp only [fl_e]
        rw [ih]
        repeat rw [gi_si_ne (Or.inl (by decide +kernel))]
    · show gi (LB_X12_undo_228 (LF_X12_undo n) x σ).2 74 k = _
      unfold LB_X12_undo_228
      by_cases h : (10 : Int32) ≤ x
      · rw [if_pos h]; exact ih _ _ _ _
      · rw [if_neg h]
        simp only [fl_e]
        rw [ih]
        repeat rw [gi_si_ne (Or.inl (by decide +kernel))]
    · show gi (LB_X12_undo_254 (LF_X12_undo n) x σ).2 74 k = _
      unfold LB_X12_undo_254
      by_cases h : (8 : Int32) ≤ x
      · rw [if_pos h]
      · rw [if_neg h]
        simp only [fl_e]
        rw [ih]
        repeat rw [gi_si_ne (Or.inl (by decide +kernel))]
    · rfl
theorem mundo12 {σ σ' : Sg} {r : Int32} (hf : F_X12_undo σ = (r, σ')) (hz : ¬ gi σ 74 49 = 0) : gi σ' 74 12 = gi σ 74 50 := by
  unfold F_X12_undo at hf
  rw [if_neg hz] at hf
  simp only [fl_e] at hf
  have e : σ' = (r, σ').2 := rfl
  rw [e, ← hf, mundo74, gi_si_ne (Or.inr (by decide +kernel)), gi_si_ne (Or.inr (by decide +kernel)), gi_si_ne (Or.inr (by decide +kernel)), gi_si_ne (Or.inr (by decide +kernel)), gi_si_ne (Or.inr (by decide +kernel)), gi_si_ne (Or.inr (by decide +kernel)), gi_si_eq]
theorem RF_undo {r2 : Int32} {σ σ1 σ2 : Sg} (ht : (gi σ 0 3).toInt = (gi σ 74 49).toInt) (q : RF σ) (f : FX (fun id => id = 10 ∨ id = 12 ∨ id = 14 ∨ id = 2 ∨ id = 3 ∨ id = 4 ∨ id = 5 ∨ id = 6 ∨ id = 7 ∨ id = 8) (fun id k => (id = 1 ∧ k = 1) ∨ (id = 1 ∧ k = 3) ∨ (id = 1 ∧ k = 9) ∨ (id = 1 ∧ k = 10) ∨ (id = 1 ∧ k = 11) ∨ (id = 11 ∧ k = 1) ∨ (id = 13 ∧ k = 1) ∨ (id = 9 ∧ k = 1)) σ σ1) (y0 : (gi σ 0 3).toInt ≠ 0 → CPY σ σ1 1 17) (y9 : (gi σ 0 3).toInt = 0 → σ1 = σ) (g : Fr [74, 103, 104, 105, 106, 107, 108, 109, 110, 142, 143, 144, 147, 148] [0, 1, 2, 12, 41, 45, 46] σ1 σ2) (h2 : F_X12_undo σ1 = (r2, σ2)) : RF σ2 := by
  by_cases z : (gi σ 0 3).toInt = 0
  · have e := y9 z
    subst e
    have e49 : gi σ1 74 49 = 0 := i_eq (b := (0 : Int32)) (by show (gi σ1 74 49).toInt = 0; omega)
    unfold F_X12_undo at h2
    rw [if_pos e49] at h2
    rw [← (Prod.mk.inj h2).2]
    exact q
  have e1 : ∀ k, gi σ1 74 k = gi σ 74 k := fun k => f.1 74 k (by intro z; (try dsimp only at z); omega) (by intro z; (try dsimp only at z); omega)
  have hz : ¬ gi σ1 74 49 = 0 := fun e => by
    rw [e1] at e
    have e2 : (gi σ 74 49).toInt = 0 := congrArg Int32.toInt e
    omega
  have e12 := mundo12 h2 hz
  have e11 : gi σ2 74 11 = gi σ 74 11 := by rw [g.2.1 11 (by decide +kernel), e1]
  have e50 : gi σ2 74 50 = gi σ 74 50 := by rw [g.2.1 50 (by decide +kernel), e1]
  have gr2 : ∀ id k, gr σ2 id k = gr σ1 id k := fun id k => congrFun (congrFun g.2.2 id) k
  refine ⟨RF0_m g (by decide +kernel) (by decide +kernel) (RF0_x f (fun id k hk => ⟨?_, ?_⟩) (fun k => ⟨?_, ?_⟩) q.1), ?_, HLD_eq (by rw [e50]) (by rw [e11]; exact Int.le_refl _) ?_ q.2.2⟩
  · intro z; unfold Rc0 at hk; (try dsimp only at z); omega
  · intro z; unfold Rc0 at hk; (try dsimp only at z); omega
  · intro z; (try dsimp only at z); omega
  · intro z; (try dsimp only at z); omega
  · have r1 : gr σ2 1 10 = gr σ 17 10 := by rw [gr2]; exact (y0 z).1.2.2.2.2
    have i12 : (gi σ2 74 12).toInt = (gi σ 74 50).toInt := by rw [e12, e1]
    rcases q.2.2 with ⟨a, b⟩ | ⟨k, a, b, c⟩
    · exact Or.inl ⟨by omega, by rw [r1]; exact b⟩
    · exact Or.inr ⟨k, by omega, by rw [e11]; exact b, by rw [r1]; exact c⟩
  · rw [gr2]
    exact f.2.2 17 10 (by intro z; (try dsimp only at z); omega) (by intro z; (try dsimp only at z); omega)
theorem nar_b : ∀ n, n < 128 → vp_nar .byte (Int32.ofNat n).toInt8.toInt32 = Int32.ofNat n := by decide +kernel
theorem RF_feed {a1 r1 r2 : Int32} {σ σ1 σ2 : Sg} (h7 : 0 ≤ (gi σ 0 7).toInt ∧ (gi σ 0 7).toInt ≤ 100) (q : RF σ) (h1 : F_X11_feed a1 σ = (r1, σ1)) (h2 : F_X12_feed a1 σ1 = (r2, σ2)) : RF σ2 ∧ r1 = r2 := by
  obtain ⟨⟨⟨t1, t2⟩, fl9, b9, l9⟩, d1, d2⟩ := q
  have z0 : (0 : Int32).toInt = 0 := rfl
  have z100 : (100 : Int32).toInt = 100 := rfl
  have z127 : (127 : Int32).toInt = 127 := rfl
  have q0 : RF σ := ⟨⟨⟨t1, t2⟩, fl9, b9, l9⟩, d1, d2⟩
  unfold F_X11_feed at h1
  unfold F_X12_feed F_X12_in at h2
  by_cases c1 : a1 < 0
  · rw [if_pos c1] at h1 h2
    rw [fb_e, if_pos rfl] at h2
    cases h1; cases h2
    exact ⟨q0, rfl⟩
  · rw [if_neg c1] at h1 h2
    have c1' : ¬ a1.toInt < 0 := fun h9 => c1 (Int32.lt_iff_toInt_lt.mpr h9)
    by_cases c2 : a1 ≤ (127 : Int32)
    · have c2' := Int32.le_iff_toInt_le.mp c2
      rw [if_pos c2] at h1
      rw [if_neg (show ¬ (127 : Int32) < a1 from fun h9 => by have := Int32.lt_iff_toInt_lt.mp h9; omega), fb_e, if_neg (show ¬ (1 : Int32) = 0 by decide +kernel)] at h2
      by_cases c3 : gi σ 0 7 < (100 : Int32)
      · have c3' := Int32.lt_iff_toInt_lt.mp c3
        rw [if_pos c3] at h1
        simp only [fl_e] at h1
        have en : a1 = Int32.ofNat a1.toNatClampNeg := nI_ofI (by omega)
        have ea := cl_eq (x := a1) (by omega)
        have ev : vp_nar .byte a1.toInt8.toInt32 = a1 := by rw [en]; exact nar_b _ (by omega)
        rw [ev] at h1
        have ec := cl_eq (x := gi σ 0 7) h7.1
        have ed := cl_eq (x := gi σ 74 13) (by omega)
        obtain ⟨n, hn⟩ : ∃ n : Nat, n = (gi σ 0 7).toNatClampNeg := ⟨_, rfl⟩
        have hn2 : (gi σ 74 13).toNatClampNeg = n := by omega
        rw [← hn] at h1
        have t9 : ((gi σ 0 7) + (1 : Int32)).toInt = (gi σ 0 7).toInt + 1 := i_add (y := (1 : Int32)) (by show (_ : Int) ≤ (gi σ 0 7).toInt + 1; omega) (by show (gi σ 0 7).toInt + 1 ≤ (_ : Int); omega)
        have t8 : ((gi σ 74 13) + (1 : Int32)).toInt = (gi σ 74 13).toInt + 1 := i_add (y := (1 : Int32)) (by show (_ : Int) ≤ (gi σ 74 13).toInt + 1; omega) (by show (gi σ 74 13).toInt + 1 ≤ (_ : Int); omega)
        rw [gi_si_ne (show (0 : Nat) ≠ 50 ∨ _ from Or.inl (by decide +kernel)), gi_si_eq] at h1
        have s1 : σ1 = si (si σ 50 n a1) 0 7 ((gi σ 0 7) + (1 : Int32)) := (Prod.mk.inj h1).2.symm
        have p1 : r1 = (gi σ 0 7) + (1 : Int32) := (Prod.mk.inj h1).1.symm
        have g13 : gi σ1 74 13 = gi σ 74 13 := by rw [s1, gi_si_ne (Or.inl (by decide +kernel)), gi_si_ne (Or.inl (by decide +kernel))]
        rw [g13, if_neg (show ¬ gi σ 74 13 = (100 : Int32) from fun h9 => by rw [h9] at t1; omega), hn2] at h2
        simp only [fl_e] at h2
        rw [gi_si_ne (show (74 : Nat) ≠ 116 ∨ _ from Or.inl (by decide +kernel)), g13, gi_si_eq] at h2
        have s2 : σ2 = si (si σ1 116 n a1) 74 13 ((gi σ 74 13) + (1 : Int32)) := (Prod.mk.inj h2).2.symm
        have p2 : r2 = (gi σ 74 13) + (1 : Int32) := (Prod.mk.inj h2).1.symm
        have gI : ∀ id k, id ≠ 50 → id ≠ 116 → (id ≠ 0 ∨ k ≠ 7) → (id ≠ 74 ∨ k ≠ 13) → gi σ2 id k = gi σ id k := fun id k a b c d => by
          rw [s2, gi_si_ne d, gi_si_ne (Or.inl b), s1, gi_si_ne c, gi_si_ne (Or.inl a)]
        have gR : ∀ id k, gr σ2 id k = gr σ id k := fun id k => by rw [s2, s1]; rfl
        have g7 : gi σ2 0 7 = (gi σ 0 7) + (1 : Int32) := by rw [s2, gi_si_ne (Or.inl (by decide +kernel)), gi_si_ne (Or.inl (by decide +kernel)), s1, gi_si_eq]
        have g74 : gi σ2 74 13 = (gi σ 74 13) + (1 : Int32) := by rw [s2, gi_si_eq]
        obtain ⟨f1, f0, f2, f3⟩ := fl9
        refine ⟨⟨⟨⟨by rw [g7, g74, t9, t8]; omega, fun p hp => ?_⟩, ⟨by rw [gI 0 5 (by decide +kernel) (by decide +kernel) (by decide +kernel) (by decide +kernel), gI 74 11 (by decide +kernel) (by decide +kernel) (by decide +kernel) (by decide +kernel)]; exact f1, by rw [gI 0 5 (by decide +kernel) (by decide +kernel) (by decide +kernel) (by decide +kernel)]; exact f0, fun k hk => by rw [gR]; exact f2 k hk, fun k hk => ?_⟩, FdA_eq (fun id k a c => gI id k (by omega) (by omega) (by omega) (by omega)) b9, LTM_eq (fun k => gI 127 k (by omega) (by omega) (by omega) (by omega)) l9⟩, HLD_eq (by rw [gI 74 12 (by decide +kernel) (by decide +kernel) (by decide +kernel) (by decide +kernel)]) (by rw [gI 74 11 (by decide +kernel) (by decide +kernel) (by decide +kernel) (by decide +kernel)]; exact Int.le_refl _) (gR 1 10) d1, HLD_eq (by rw [gI 74 50 (by decide +kernel) (by decide +kernel) (by decide +kernel) (by decide +kernel)]) (by rw [gI 74 11 (by decide +kernel) (by decide +kernel) (by decide +kernel) (by decide +kernel)]; exact Int.le_refl _) (gR 17 10) d2⟩, ?_⟩
        · rw [g7, t9] at hp
          rw [s2, gi_si_ne (Or.inl (by decide +kernel)), gi_si_ne (Or.inl (by decide +kernel)), gi_si_ne (show (116 : Nat) ≠ 74 ∨ _ from Or.inl (by decide +kernel)), s1, gi_si_ne (Or.inl (by decide +kernel)), gi_si, gi_si]
          by_cases hpn : p = n
          · rw [if_pos ⟨rfl, hpn⟩, if_pos ⟨rfl, hpn⟩]
          · rw [if_neg (fun h9 => hpn h9.2), if_neg (fun h9 => hpn h9.2), gi_si_ne (Or.inl (by decide +kernel)), gi_si_ne (Or.inl (by decide +kernel))]
            exact t2 p (by omega)
        · rw [gI 0 5 (by decide +kernel) (by decide +kernel) (by decide +kernel) (by decide +kernel)] at hk
          obtain ⟨cl, hcl⟩ := f3 k hk
          exact ⟨cl, FDS_eq (fun id j a c => gI id j (by omega) (by omega) (by omega) (by omega)) (fun id j a c _ => gI id j (by omega) (by omega) (by omega) (by omega)) (fun j _ => gI 122 j (by omega) (by omega) (by omega) (by omega)) (gI 117 k (by omega) (by omega) (by omega) (by omega)) hcl⟩
        · rw [p1, p2]; exact Int32.toInt_inj.mp (by omega)
      · have c3' : ¬ (gi σ 0 7).toInt < (100 : Int32).toInt := fun h9 => c3 (Int32.lt_iff_toInt_lt.mpr h9)
        rw [if_neg c3] at h1
        cases h1
        rw [if_pos (show gi σ 74 13 = (100 : Int32) from Int32.toInt_inj.mp (by omega))] at h2
        cases h2
        exact ⟨q0, rfl⟩
    · have c2' : ¬ a1.toInt ≤ (127 : Int32).toInt := fun h9 => c2 (Int32.le_iff_toInt_le.mpr h9)
      rw [if_neg c2] at h1
      rw [if_pos (show (127 : Int32) < a1 from Int32.lt_iff_toInt_lt.mpr (by omega)), fb_e, if_pos rfl] at h2
      cases h1; cases h2
      exact ⟨q0, rfl⟩
/-! the field that is read, alike in both -/
noncomputable def FLDR (σ : Sg) (f : Nat) (r : Int32) (σ' : Sg) : Prop := ∃ (σ2 : Sg) (r2 : Int32), F_X2_reads f 50 (gi σ 0 7) σ = (r2, σ2) ∧ ((r2 = 0 ∧ r = (-10 : Int32) - gi σ2 f 11 ∧ σ' = si σ2 0 7 (0 : Int32)) ∨ (¬ r2 = 0 ∧ σ' = si (sr (si σ2 0 7 (0 : Int32)) 1 10 (some f)) 0 5 ((gi σ 0 5) + (1 : Int32)) ∧ r = ((gi σ 0 5) + (1 : Int32)) - (1 : Int32)))
noncomputable def FLDC (σ : Sg) (r : Int32) (σ' : Sg) : Prop := (¬ (gi σ 0 5).toInt < 6 ∧ r = (-4 : Int32) ∧ σ' = σ) ∨ ((gi σ 0 5).toInt < 6 ∧ ∃ (f : Nat) (σ1 : Sg), ((gr σ 49 (gi σ 0 5).toNatClampNeg = some f ∧ σ1 = σ) ∨ (gr σ 49 (gi σ 0 5).toNatClampNeg = none ∧ f = 1000 + 5 * (gi σ 0 5).toNatClampNeg ∧ σ1 = sr (fnew σ f) 49 (gi σ 0 5).toNatClampNeg (some f))) ∧ FLDR σ1 f r σ')
set_option maxHeartbeats 4000000 in
theorem RF_field {r1 r2 : Int32} {σ σ1 σ2 : Sg} (h5 : 0 ≤ (gi σ 0 5).toInt) (h7 : 0 ≤ (gi σ 0 7).toInt ∧ (gi σ 0 7).toInt ≤ 100) (hb : ∀ p, p < 100 → 0 ≤ (gi σ 116 p).toInt ∧ (gi σ 116 p).toInt ≤ 127) (q : RF σ) (h1 : FLDC σ r1 σ1) (h2 : F_X12_field σ1 = (r2, σ2)) : RF σ2 ∧ r1 = r2 := by
  obtain ⟨⟨⟨t1, t2⟩, ⟨f1, f0, f2, f3⟩, b9, l9⟩, d1, d2⟩ := id q
  have z6 : (6 : Int32).toInt = 6 := rfl
  have ec := cl_eq (x := gi σ 0 5) h5
  obtain ⟨n, hn⟩ : ∃ n : Nat, n = (gi σ 0 5).toNatClampNeg := ⟨_, rfl⟩
  rcases h1 with ⟨c, rfl, rfl⟩ | ⟨c, f, σ0, hs, σr, rr, e1, e2⟩
  · unfold F_X12_field at h2
    rw [if_pos (show gi σ1 74 11 = (6 : Int32) from Int32.toInt_inj.mp (by omega))] at h2
    cases h2
    exact ⟨q, rfl⟩
  rw [← hn] at hs ec
  have hf : f = 1000 + 5 * n := by
    rcases hs with ⟨a, -⟩ | ⟨-, a, -⟩
    · rcases f2 n (by omega) with h9 | h9
      · rw [h9] at a; cases a
      · rw [h9] at a; exact (Option.some.inj a).symm
    · exact a
  have gI0 : ∀ id k, ¬ (f ≤ id ∧ id ≤ f + 4) → gi σ0 id k = gi σ id k := by
    intro id k hid
    rcases hs with ⟨-, a⟩ | ⟨-, -, a⟩
    · rw [a]
    · rw [a, gi_sr]; exact fn_i hid
  have gR0 : ∀ id k, id ≠ 49 → id ≠ f → gr σ0 id k = gr σ id k := by
    intro id k hid hid2
    rcases hs with ⟨-, a⟩ | ⟨-, -, a⟩
    · rw [a]
    · rw [a, gr_sr, if_neg (fun z => hid z.1), fn_r, if_neg hid2]
  have g49 : ∀ k, gr σ0 49 k = if k = n then some f else gr σ 49 k := by
    intro k
    rcases hs with ⟨b, a⟩ | ⟨-, -, a⟩
    · by_cases hk : k = n
      · rw [if_pos hk, a, hk]; exact b
      · rw [if_neg hk, a]
    · rw [a, gr_sr]
      by_cases hk : k = n
      · rw [if_pos ⟨rfl, hk⟩, if_pos hk]
      · rw [if_neg (fun z => hk z.2), if_neg hk, fn_r, if_neg (by omega)]
  have ed := cl_eq (x := gi σ 0 7) h7.1
  obtain ⟨e, he⟩ : ∃ e : Nat, e = (gi σ 0 7).toNatClampNeg := ⟨_, rfl⟩
  rw [← he] at ed
  have ht : ∀ p, p < e → (gi σ0 50 p).toInt = (gi σ 116 p).toInt := fun p hp => by rw [gI0 50 p (by omega)]; exact t2 p (by omega)
  have C := readsC (c0 := f) (e := e) (σ := σ0) (a2 := gi σ0 0 7) (by omega) (by rw [gI0 0 7 (by omega)]; omega) (by omega) (fun p hp => by rw [ht p hp]; exact hb p (by omega))
  obtain ⟨nx, enx⟩ : ∃ nx, nx = txn (fun p => gi σ0 50 p) e := ⟨_, rfl⟩
  rw [← enx] at C
  have nx1 : ∀ τ : Sg, (∀ p, gi τ 116 p = gi σ 116 p) → txn (fun p => gi τ 116 p) e = nx := by
    intro τ hτ
    rw [enx]
    funext p
    unfold txn
    by_cases hp : p < e
    · rw [if_pos hp, if_pos hp]
      show (gi τ 116 p).toInt = (gi σ0 50 p).toInt
      rw [hτ, ht p hp]
    · rw [if_neg hp, if_neg hp]
  have g05 : gi σ0 0 5 = gi σ 0 5 := gI0 0 5 (by omega)
  by_cases ok : (ptext nx e 10 0 []).1 = true
  · obtain ⟨σ', c1, c2, c3, c4, c5, c6⟩ := C.1 ok
    rw [c1] at e1
    obtain ⟨rfl, rfl⟩ := Prod.mk.inj e1
    rcases e2 with ⟨h9, -⟩ | ⟨-, es, er⟩
    · exact absurd h9 (by decide +kernel)
    rw [g05] at es er
    have t9 : ((gi σ 0 5) + (1 : Int32)).toInt = (gi σ 0 5).toInt + 1 := i_add (y := (1 : Int32)) (by show (_ : Int) ≤ (gi σ 0 5).toInt + 1; omega) (by show (gi σ 0 5).toInt + 1 ≤ (_ : Int); omega)
    have t8 : (((gi σ 0 5) + (1 : Int32)) - (1 : Int32)).toInt = ((gi σ 0 5) + (1 : Int32)).toInt - 1 := i_pred (by omega)
    have gI1 : ∀ id k, ¬ (f ≤ id ∧ id ≤ f + 4) → id ≠ 0 → gi σ1 id k = gi σ id k := fun id k a b => by
      rw [es, gi_si_ne (Or.inl b), gi_sr, gi_si_ne (Or.inl b), FX_i c6 (by omega) (by show ¬ id = f; omega), gI0 id k a]
    have gF1 : ∀ id k, f ≤ id → gi σ1 id k = gi σ' id k := fun id k a => by
      rw [es, gi_si_ne (Or.inl (by omega)), gi_sr, gi_si_ne (Or.inl (by omega))]
    have gR1 : ∀ id k, id ≠ 1 → id < f → gr σ1 id k = gr σ0 id k := fun id k a b => by
      rw [es, gr_si, gr_sr, if_neg (fun z => a z.1), gr_si]
      exact FX_r c6 (by omega) (by show ¬ id = f; omega)
    have r110 : gr σ1 1 10 = some f := by rw [es, gr_si, gr_sr, if_pos ⟨rfl, rfl⟩]
    have g74 : ∀ k, gi σ1 74 k = gi σ 74 k := fun k => gI1 74 k (by omega) (by decide +kernel)
    have M := goesM (σ := σ1) (e := e) (f := n) (a1 := gi σ1 74 11) (by rw [g74]; omega) (by omega) (fun p hp => by rw [gI1 116 p (by omega) (by decide +kernel)]; exact hb p (by omega)) (LTM_eq (fun k => gI1 127 k (by omega) (by decide +kernel)) l9) (by rw [g74]; omega) (by omega)
    rw [nx1 σ1 (fun p => gI1 116 p (by omega) (by decide +kernel))] at M
    obtain ⟨σm, m1, m2, m3, m4⟩ := M.1 ok
    unfold F_X12_field at h2
    rw [if_neg (show ¬ gi σ1 74 11 = (6 : Int32) from fun h9 => by rw [g74] at h9; rw [h9] at f1; omega), m1, fb_e] at h2
    simp only [fl_e] at h2
    rw [if_neg (show ¬ (1 : Int32) = 0 by decide +kernel)] at h2
    have gm : ∀ k, k ≠ 14 → k ≠ 15 → k ≠ 24 → k ≠ 25 → k ≠ 26 → gi σm 74 k = gi σ 74 k := fun k a b c d e9 => by
      rw [FX_i m4 (by decide +kernel) (by rintro (⟨-, h9⟩ | ⟨h9, -⟩ | ⟨h9, -⟩ | ⟨h9, -⟩) <;> omega), g74]
    have x11 : gi (si σm 74 13 (0 : Int32)) 74 11 = gi σ 74 11 := by rw [gi_si_ne (Or.inr (by decide +kernel))]; exact gm 11 (by decide +kernel) (by decide +kernel) (by decide +kernel) (by decide +kernel) (by decide +kernel)
    have x11b : gi (si (si σm 74 13 (0 : Int32)) 74 12 (gi σ 74 11)) 74 11 = gi σ 74 11 := by rw [gi_si_ne (Or.inr (by decide +kernel))]; exact x11
    rw [x11, x11b] at h2
    have s2 : σ2 = si (si (si σm 74 13 (0 : Int32)) 74 12 (gi σ 74 11)) 74 11 ((gi σ 74 11) + (1 : Int32)) := (Prod.mk.inj h2).2.symm
    have p2 : r2 = gi σ 74 11 := by
      rw [← (Prod.mk.inj h2).1, gi_si_ne (Or.inr (by decide +kernel)), gi_si_eq]
    have t7 : ((gi σ 74 11) + (1 : Int32)).toInt = (gi σ 74 11).toInt + 1 := i_add (y := (1 : Int32)) (by show (_ : Int) ≤ (gi σ 74 11).toInt + 1; omega) (by show (gi σ 74 11).toInt + 1 ≤ (_ : Int); omega)
    have g2o : ∀ id k, id ≠ 74 → gi σ2 id k = gi σm id k := fun id k a => by rw [s2, gi_si_ne (Or.inl a), gi_si_ne (Or.inl a), gi_si_ne (Or.inl a)]
    have g2m : ∀ id k, id < 117 ∨ 123 < id → id ≠ 74 → gi σ2 id k = gi σ1 id k := fun id k a b => by
      rw [g2o id k b, FX_i m4 (show ¬ id = 123 by omega) (by rintro (⟨h9, -⟩ | ⟨h9, -⟩ | ⟨h9, -⟩ | ⟨h9, -⟩) <;> omega)]
    have q11 : gi σ2 74 11 = (gi σ 74 11) + (1 : Int32) := by rw [s2, gi_si_eq]
    have q12 : gi σ2 74 12 = gi σ 74 11 := by rw [s2, gi_si_ne (Or.inr (by decide +kernel)), gi_si_eq]
    have q13 : gi σ2 74 13 = 0 := by rw [s2, gi_si_ne (Or.inr (by decide +kernel)), gi_si_ne (Or.inr (by decide +kernel)), gi_si_eq]
    have q50 : gi σ2 74 50 = gi σ 74 50 := by rw [s2, gi_si_ne (Or.inr (by decide +kernel)), gi_si_ne (Or.inr (by decide +kernel)), gi_si_ne (Or.inr (by decide +kernel))]; exact gm 50 (by decide +kernel) (by decide +kernel) (by decide +kernel) (by decide +kernel) (by decide +kernel)
    have q05 : gi σ2 0 5 = (gi σ 0 5) + (1 : Int32) := by rw [g2m 0 5 (by decide +kernel) (by decide +kernel), es, gi_si_eq]
    have q07 : gi σ2 0 7 = 0 := by rw [g2m 0 7 (by decide +kernel) (by decide +kernel), es, gi_si_ne (Or.inr (by decide +kernel)), gi_sr, gi_si_eq]
    have gR2 : ∀ id k, gr σ2 id k = gr σm id k := fun id k => by rw [s2]; rfl
    have gR3 : ∀ id k, id ≠ 123 → id ≠ 74 → id < 117 ∨ 123 < id → gr σm id k = gr σ1 id k := fun id k a b c => FX_r m4 a (by rintro (⟨h9, -⟩ | ⟨h9, -⟩ | ⟨h9, -⟩ | ⟨h9, -⟩) <;> omega)
    have old : ∀ k cl, k < n → FDS σ k cl → FDS σ2 k cl := fun k cl hk h => by
      refine FDS_eq (fun id j a b => ?_) (fun id j a b c => ?_) (fun j hj => ?_) ?_ h
      · rw [g2m id j (by omega) (by omega)]; exact gI1 id j (by omega) (by omega)
      · rw [g2o id j (by omega), FX_i m4 (show ¬ id = 123 by omega) (by rintro (⟨h9, -⟩ | ⟨h9, -⟩ | ⟨-, h9⟩ | ⟨h9, -⟩) <;> omega)]; exact gI1 id j (by omega) (by omega)
      · rw [g2o 122 j (by decide +kernel), FX_i m4 (by decide +kernel) (by rintro (⟨h9, -⟩ | ⟨-, h9⟩ | ⟨h9, -⟩ | ⟨h9, -⟩) <;> omega)]; exact gI1 122 j (by omega) (by decide +kernel)
      · rw [g2o 117 k (by decide +kernel), FX_i m4 (by decide +kernel) (by rintro (⟨h9, -⟩ | ⟨h9, -⟩ | ⟨h9, -⟩ | ⟨-, h9⟩) <;> omega)]; exact gI1 117 k (by omega) (by decide +kernel)
    have new : FDS σ2 n (ptext nx e 10 0 []).2.2 := by
      refine ⟨?_, ?_, ?_, c5, ptext_PW 10 0 [] (fun c hc => absurd hc List.not_mem_nil) ok, ?_⟩
      · rw [← hf]
        exact FdA_eq (fun id j a b => by rw [g2m id j (by omega) (by omega)]; exact gF1 id j a) ⟨c3, c4, c2.cd⟩
      · exact ClsM_eq (fun i id _ a b => g2o id _ (by omega)) (fun j _ => g2o 122 j (by decide +kernel)) m2
      · rw [g2o 117 n (by decide +kernel)]; exact m3
      · have := c2.ll; omega
    refine ⟨⟨⟨⟨by rw [q07, q13], fun p hp => ?_⟩, ⟨by rw [q05, q11]; omega, by rw [q05]; omega, fun k hk => ?_, fun k hk => ?_⟩, FdA_eq (fun id j a b => by rw [g2m id j (by omega) (by omega)]; exact gI1 id j (by omega) (by omega)) b9, LTM_eq (fun k => by rw [g2m 127 k (by decide +kernel) (by decide +kernel)]; exact gI1 127 k (by omega) (by decide +kernel)) l9⟩, Or.inr ⟨n, by rw [q12]; omega, by rw [q11]; omega, ?_⟩, HLD_eq (by rw [q50]) (by rw [q11]; omega) ?_ d2⟩, ?_⟩
    · rw [q07] at hp
      have hp : (p : Int) < 0 := hp
      omega
    · rw [gR2, gR3 49 k (by decide +kernel) (by decide +kernel) (by decide +kernel), gR1 49 k (by decide +kernel) (by omega), g49]
      by_cases z : k = n
      · rw [if_pos z, z, hf]; exact Or.inr rfl
      · rw [if_neg z]; exact f2 k hk
    · rw [q05] at hk
      by_cases z : k = n
      · rw [z]; exact ⟨_, new⟩
      · obtain ⟨cl, hcl⟩ := f3 k (by omega)
        exact ⟨cl, old k cl (by omega) hcl⟩
    · rw [gR2, gR3 1 10 (by decide +kernel) (by decide +kernel) (by decide +kernel), r110, hf]
    · rw [gR2, gR3 17 10 (by decide +kernel) (by decide +kernel) (by decide +kernel), gR1 17 10 (by decide +kernel) (by omega), gR0 17 10 (by decide +kernel) (by omega)]
    · rw [er, p2]; exact Int32.toInt_inj.mp (by omega)
  · obtain ⟨σ', c1, c2, c6⟩ := C.2 (Bool.eq_false_iff.mpr ok)
    rw [c1] at e1
    obtain ⟨rfl, rfl⟩ := Prod.mk.inj e1
    rcases e2 with ⟨-, er, es⟩ | ⟨h9, -⟩
    rotate_left
    · exact absurd rfl h9
    have gI1 : ∀ id k, ¬ (f ≤ id ∧ id ≤ f + 4) → id ≠ 0 → gi σ1 id k = gi σ id k := fun id k a b => by
      rw [es, gi_si_ne (Or.inl b), FX_i c6 (by omega) (by show ¬ id = f; omega), gI0 id k a]
    have gR1 : ∀ id k, id < f → gr σ1 id k = gr σ0 id k := fun id k b => by
      rw [es, gr_si]
      exact FX_r c6 (by omega) (by show ¬ id = f; omega)
    have g74 : ∀ k, gi σ1 74 k = gi σ 74 k := fun k => gI1 74 k (by omega) (by decide +kernel)
    have M := goesM (σ := σ1) (e := e) (f := n) (a1 := gi σ1 74 11) (by rw [g74]; omega) (by omega) (fun p hp => by rw [gI1 116 p (by omega) (by decide +kernel)]; exact hb p (by omega)) (LTM_eq (fun k => gI1 127 k (by omega) (by decide +kernel)) l9) (by rw [g74]; omega) (by omega)
    rw [nx1 σ1 (fun p => gI1 116 p (by omega) (by decide +kernel))] at M
    obtain ⟨σm, m1, m2, m4⟩ := M.2 (Bool.eq_false_iff.mpr ok)
    unfold F_X12_field at h2
    rw [if_neg (show ¬ gi σ1 74 11 = (6 : Int32) from fun h9 => by rw [g74] at h9; rw [h9] at f1; omega), m1, fb_e] at h2
    simp only [fl_e] at h2
    rw [if_pos trivial] at h2
    have gm : ∀ k, k ≠ 14 → k ≠ 15 → k ≠ 24 → k ≠ 25 → k ≠ 26 → gi σm 74 k = gi σ 74 k := fun k a b c d e9 => by
      rw [FX_i m4 (by decide +kernel) (by rintro (⟨-, h9⟩ | ⟨h9, -⟩ | ⟨h9, -⟩ | ⟨h9, -⟩) <;> omega), g74]
    have s2 : σ2 = si σm 74 13 (0 : Int32) := (Prod.mk.inj h2).2.symm
    have p2 : r2 = (-10 : Int32) - gi σm 74 14 := by
      rw [← (Prod.mk.inj h2).1, gi_si_ne (Or.inr (by decide +kernel))]
    have g2o : ∀ id k, id ≠ 74 → gi σ2 id k = gi σm id k := fun id k a => by rw [s2, gi_si_ne (Or.inl a)]
    have g2m : ∀ id k, id < 117 ∨ 123 < id → id ≠ 74 → gi σ2 id k = gi σ1 id k := fun id k a b => by
      rw [g2o id k b, FX_i m4 (show ¬ id = 123 by omega) (by rintro (⟨h9, -⟩ | ⟨h9, -⟩ | ⟨h9, -⟩ | ⟨h9, -⟩) <;> omega)]
    have q74 : ∀ k, k = 11 ∨ k = 12 ∨ k = 50 → gi σ2 74 k = gi σ 74 k := fun k hk => by
      rw [s2, gi_si_ne (Or.inr (by omega))]; exact gm k (by omega) (by omega) (by omega) (by omega) (by omega)
    have q13 : gi σ2 74 13 = 0 := by rw [s2, gi_si_eq]
    have q05 : gi σ2 0 5 = gi σ 0 5 := by rw [g2m 0 5 (by decide +kernel) (by decide +kernel), es, gi_si_ne (Or.inr (by decide +kernel)), FX_i c6 (by omega) (by show ¬ 0 = f; omega)]; exact g05
    have q07 : gi σ2 0 7 = 0 := by rw [g2m 0 7 (by decide +kernel) (by decide +kernel), es, gi_si_eq]
    have gR2 : ∀ id k, gr σ2 id k = gr σm id k := fun id k => by rw [s2]; rfl
    have gR3 : ∀ id k, id ≠ 123 → id ≠ 74 → id < 117 ∨ 123 < id → gr σm id k = gr σ1 id k := fun id k a b c => FX_r m4 a (by rintro (⟨h9, -⟩ | ⟨h9, -⟩ | ⟨h9, -⟩ | ⟨h9, -⟩) <;> omega)
    have old : ∀ k cl, k < n → FDS σ k cl → FDS σ2 k cl := fun k cl hk h => by
      refine FDS_eq (fun id j a b => ?_) (fun id j a b c => ?_) (fun j hj => ?_) ?_ h
      · rw [g2m id j (by omega) (by omega)]; exact gI1 id j (by omega) (by omega)
      · rw [g2o id j (by omega), FX_i m4 (show ¬ id = 123 by omega) (by rintro (⟨h9, -⟩ | ⟨h9, -⟩ | ⟨-, h9⟩ | ⟨h9, -⟩) <;> omega)]; exact gI1 id j (by omega) (by omega)
      · rw [g2o 122 j (by decide +kernel), FX_i m4 (by decide +kernel) (by rintro (⟨h9, -⟩ | ⟨-, h9⟩ | ⟨h9, -⟩ | ⟨h9, -⟩) <;> omega)]; exact gI1 122 j (by omega) (by decide +kernel)
      · rw [g2o 117 k (by decide +kernel), FX_i m4 (by decide +kernel) (by rintro (⟨h9, -⟩ | ⟨h9, -⟩ | ⟨h9, -⟩ | ⟨-, h9⟩) <;> omega)]; exact gI1 117 k (by omega) (by decide +kernel)
    refine ⟨⟨⟨⟨by rw [q07, q13], fun p hp => ?_⟩, ⟨by rw [q05, q74 11 (by decide +kernel)]; exact f1, by rw [q05]; exact f0, fun k hk => ?_, fun k hk => ?_⟩, FdA_eq (fun id j a b => by rw [g2m id j (by omega) (by omega)]; exact gI1 id j (by omega) (by omega)) b9, LTM_eq (fun k => by rw [g2m 127 k (by decide +kernel) (by decide +kernel)]; exact gI1 127 k (by omega) (by decide +kernel)) l9⟩, HLD_eq (by rw [q74 12 (by decide +kernel)]) (by rw [q74 11 (by decide +kernel)]; exact Int.le_refl _) ?_ d1, HLD_eq (by rw [q74 50 (by decide +kernel)]) (by rw [q74 11 (by decide +kernel)]; exact Int.le_refl _) ?_ d2⟩, ?_⟩
    · rw [q07] at hp
      have hp : (p : Int) < 0 := hp
      omega
    · rw [gR2, gR3 49 k (by decide +kernel) (by decide +kernel) (by decide +kernel), gR1 49 k (by omega), g49]
      by_cases z : k = n
      · rw [if_pos z, z, hf]; exact Or.inr rfl
      · rw [if_neg z]; exact f2 k hk
    · rw [q05] at hk
      obtain ⟨cl, hcl⟩ := f3 k hk
      exact ⟨cl, old k cl (by omega) hcl⟩
    · rw [gR2, gR3 1 10 (by decide +kernel) (by decide +kernel) (by decide +kernel), gR1 1 10 (by omega), gR0 1 10 (by decide +kernel) (by omega)]
    · rw [gR2, gR3 17 10 (by decide +kernel) (by decide +kernel) (by decide +kernel), gR1 17 10 (by omega), gR0 17 10 (by decide +kernel) (by omega)]
    · rw [er, p2]
      exact congrArg (fun z => (-10 : Int32) - z) (Int32.toInt_inj.mp (by rw [c2, m2]))
set_option maxRecDepth 100000 in
set_option maxHeartbeats 4000000 in
theorem kF_J0_isLatin1_aae02 {l : Launch} {V : Vx} {c0 : Nat} {σ0 : Sg} {Qk : Int32 → Sg → Prop} (hc0 : c0 < 8) (m0 : XI V σ0) (h9ret : ∀ (r : Int32) (σ' : Sg), XI V σ' → FX (fun id => False) (fun _ _ => False) σ0 σ' → (r.toInt = 1) → (F_J0_isLatin1_aae02 c0 σ0 = (r, σ')) → Qk r σ') : K_J0_isLatin1_aae02 l V c0 σ0 Qk := by
  refine e_J0_isLatin1_aae02 (fun M hl hV hN C => ?_)
  subst hl
  subst hV
  obtain ⟨R9, H0⟩ : ∃ R9, F_J0_isLatin1_aae02 c0 σ0 = R9 := ⟨_, rfl⟩
  have f0 : FX (fun id => False) (fun _ _ => False) σ0 σ0 := FX_rf
  have H := H0
  unfold F_J0_isLatin1_aae02 at H
  refine s_J0_isLatin1_aae02_0 C hN hc0 ?_
  refine ⟨?_, ?_⟩
  · intro q_1
    replace H := f_t q_1 H
    have b_2 : (1 : Int) = 0 := congrArg Int32.toInt q_1
    have z_3 : (0 : Int32).toInt = 0 := rfl
    exact h9ret (0 : Int32) σ0 m0 f0 (by first | with_reducible assumption | with_reducible rfl | omega | assumption | rfl) (H0.trans H.symm)
  · intro q_1
    replace H := f_f q_1 H
    have b_4 : ¬ (1 : Int) = 0 := fun h9 => q_1 (Int32.toInt_inj.mp h9)
    refine ⟨?_, ?_⟩
    · intro q_5
      replace H := f_f q_5 H
      have b_6 : ¬ (0 : Int) = 0 := fun h9 => q_5 (Int32.toInt_inj.mp h9)
      have z_7 : (0 : Int32).toInt = 0 := rfl
      exact h9ret (0 : Int32) σ0 m0 f0 (by first | with_reducible assumption | with_reducible rfl | omega | assumption | rfl) (H0.trans H.symm)
    · intro q_5
      replace H := f_t q_5 H
      have b_8 : (0 : Int) = 0 := congrArg Int32.toInt q_5
      have z_9 : (1 : Int32).toInt = 1 := rfl
      exact h9ret (1 : Int32) σ0 m0 f0 (by first | with_reducible assumption | with_reducible rfl | omega | assumption | rfl) (H0.trans H.symm)
theorem kF_J0_length_8abf5 {l : Launch} {V : Vx} {c0 : Nat} {σ0 : Sg} {Qk : Int32 → Sg → Prop} (hc0 : c0 < 8) (m0 : XI V σ0) (h9ret : ∀ (r : Int32) (σ' : Sg), XI V σ' → FX (fun id => False) (fun _ _ => False) σ0 σ' → (r.toInt = (slen c0 : Int)) → (F_J0_length_8abf5 c0 σ0 = (r, σ')) → Qk r σ') : K_J0_length_8abf5 l V c0 σ0 Qk :=
  k_J0_length_8abf5 hc0 m0 (fun r σ' m f p => h9ret r σ' m f p (by
    obtain rfl := FX_nil f
    exact Prod.ext (Int32.toInt_inj.mp ((nI_slen hc0).1.trans p.symm)) rfl))
theorem kF_J0_charAt_5068e {l : Launch} {V : Vx} {c0 : Nat} {a1 : Int32} {σ0 : Sg} {Qk : Int32 → Sg → Prop} (hc0 : c0 < 8) (m0 : XI V σ0) (pre0 : vp_in a1 (slen c0)) (h9ret : ∀ (r : Int32) (σ' : Sg), XI V σ' → FX (fun id => False) (fun _ _ => False) σ0 σ' → (32 ≤ r.toInt ∧ r.toInt ≤ 127) → (r = sby c0 a1.toNatClampNeg) → (F_J0_charAt_5068e c0 a1 σ0 = (r, σ')) → Qk r σ') : K_J0_charAt_5068e l V c0 a1 σ0 Qk :=
  k_J0_charAt_5068e hc0 m0 pre0 (fun r σ' m f p q => h9ret r σ' m f p q (by
    obtain rfl := FX_nil f
    exact Prod.ext q.symm rfl))

set_option maxRecDepth 100000 in
set_option maxHeartbeats 4000000 in
theorem kF_J1_canEncode_9a6ad {l : Launch} {V : Vx} {a1 : Int32} {σ0 : Sg} {Qk : Int32 → Sg → Prop} (m0 : XI V σ0) (h9ret : ∀ (r : Int32) (σ' : Sg), XI V σ' → FX (fun id => False) (fun _ _ => False) σ0 σ' → (F_J1_canEncode_9a6ad a1 σ0 = (r, σ')) → Qk r σ') : K_J1_canEncode_9a6ad l V a1 σ0 Qk := by
  refine e_J1_canEncode_9a6ad (fun M hl hV hN C => ?_)
  subst hl
  subst hV
  obtain ⟨R9, H0⟩ : ∃ R9, F_J1_canEncode_9a6ad a1 σ0 = R9 := ⟨_, rfl⟩
  have f0 : FX (fun id => False) (fun _ _ => False) σ0 σ0 := FX_rf
  have H := H0
  unfold F_J1_canEncode_9a6ad at H
  refine s_J1_canEncode_9a6ad_0 C hN  ?_
  refine ⟨?_, ?_⟩
  · intro q_1
    replace H := f_t q_1 H
    have w_2 := Int32.toInt_lt a1
    have w_3 := Int32.le_toInt a1
    have b_4 : a1.toInt < 0 := Int32.lt_iff_toInt_lt.mp q_1
    have z_5 : (0 : Int32).toInt = 0 := rfl
    exact h9ret (0 : Int32) σ0 m0 f0 (H0.trans H.symm)
  · intro q_1
    replace H := f_f q_1 H
    have w_6 := Int32.toInt_lt a1
    have w_7 := Int32.le_toInt a1
    have b_8 : ¬ a1.toInt < 0 := fun h9 => q_1 (Int32.lt_iff_toInt_lt.mpr h9)
    refine ⟨?_, ?_⟩
    · intro q_9
      replace H := f_t q_9 H
      have b_10 : (255 : Int) < a1.toInt := Int32.lt_iff_toInt_lt.mp q_9
      have z_11 : (0 : Int32).toInt = 0 := rfl
      exact h9ret (0 : Int32) σ0 m0 f0 (H0.trans H.symm)
    · intro q_9
      replace H := f_f q_9 H
      have b_12 : ¬ (255 : Int) < a1.toInt := fun h9 => q_9 (Int32.lt_iff_toInt_lt.mpr h9)
      have z_13 : (1 : Int32).toInt = 1 := rfl
      exact h9ret (1 : Int32) σ0 m0 f0 (H0.trans H.symm)
set_option maxRecDepth 100000 in
set_option maxHeartbeats 4000000 in
theorem kF_J1_indexOfChar_4cfef {l : Launch} {V : Vx} {a1 : Nat} {a2 : Int32} {a3 : Int32} {a4 : Int32} {σ0 : Sg} {Qk : Int32 → Sg → Prop} (ha1 : a1 < 8) (m0 : XI V σ0) (l_a3 : 0 ≤ a3.toInt) (u_a3 : a3.toInt ≤ 6) (l_a4 : 0 ≤ a4.toInt) (u_a4 : a4.toInt ≤ 6) (pre0 : a4.toInt ≤ (slen a1 : Int)) (h9ret : ∀ (r : Int32) (σ' : Sg), XI V σ' → FX (fun id => False) (fun _ _ => False) σ0 σ' → (-1 ≤ r.toInt) → (r.toInt < (slen a1 : Int)) → (F_J1_indexOfChar_4cfef a1 a2 a3 a4 σ0 = (r, σ')) → Qk r σ') : K_J1_indexOfChar_4cfef l V a1 a2 a3 a4 σ0 Qk := by
  refine e_J1_indexOfChar_4cfef (fun M hl hV hN C => ?_)
  subst hl
  subst hV
  obtain ⟨R9, H0⟩ : ∃ R9, F_J1_indexOfChar_4cfef a1 a2 a3 a4 σ0 = R9 := ⟨_, rfl⟩
  have hn := nI_slen ha1
  have T : ∀ n : Nat, (∀ (x3 : Int32) (x4 : Int32) (x5 : Int32) (σ : Sg), XI (mV M) σ → FX (fun id => False) (fun _ _ => False) σ0 σ → (0 ≤ x3.toInt) → (x3.toInt ≤ 6) → (0 ≤ x5.toInt) → (x5.toInt ≤ 6) → (x3.toInt ≤ (slen a1 : Int)) → (LF_J1_indexOfChar_4cfef a1 n x3 x4 x5 σ = R9) → (7 - x5.toInt).toNat < n → PS M 7 [(0, .ref (300 + a1)), (3, .int x3), (4, .int x4), (5, .int x5)] [] σ (0, 0)) := by
    intro n
    induction n with
    | zero => exact fun _ _ _ _ _ _ _ _ _ _ _ _ h8 => absurd h8 (Nat.not_lt_zero _)
    | succ n ih =>
      have ih7 := ih
      · intro x3 x4 x5 σ mσ fσ lx3 ux3 lx5 ux5 i0 H hmu
        replace H : LB_J1_indexOfChar_4cfef_7 a1 (LF_J1_indexOfChar_4cfef a1 n) x3 x4 x5 σ = R9 := H
        unfold LB_J1_indexOfChar_4cfef_7 at H
        refine s_J1_indexOfChar_4cfef_7 C hN ha1 ?_
        refine ⟨?_, ?_⟩
        · intro q_1
          replace H := f_t q_1 H
          have b_2 : x3.toInt ≤ x5.toInt := Int32.le_iff_toInt_le.mp q_1
          have z_3 : (-1 : Int32).toInt = -1 := rfl
          exact h9ret (-1 : Int32) σ mσ fσ (by first | with_reducible assumption | with_reducible rfl | omega | assumption | rfl) (by first | with_reducible assumption | with_reducible rfl | omega | assumption | rfl) (H0.trans H.symm)
        · intro q_1
          replace H := f_f q_1 H
          have b_4 : ¬ x3.toInt ≤ x5.toInt := fun h9 => q_1 (Int32.le_iff_toInt_le.mpr h9)
          have hv_5 : vp_in x5 (slen a1) := vp_in_iff.mpr ⟨by omega, by omega⟩
          refine ⟨hv_5, ?_⟩
          refine ⟨?_, ?_⟩
          · intro q_6
            replace H := f_f q_6 H
            intro v4 ev4
            replace H := f_l ev4 H
            have t_7 : (x5 + (1 : Int32)).toInt = x5.toInt + 1 := i_add (x := x5) (y := (1 : Int32)) (by show (_ : Int) ≤ x5.toInt + 1; omega) (by show x5.toInt + 1 ≤ (_ : Int); omega)
            have t_8 : v4.toInt = (x5 + (1 : Int32)).toInt := congrArg Int32.toInt ev4
            have w_9 := Int32.toInt_lt x4
            have w_10 := Int32.le_toInt x4
            exact ih7 x3 x4 v4 σ mσ fσ (by omega) (by omega) (by omega) (by omega) (by first | with_reducible assumption | with_reducible rfl | omega | assumption | rfl) H (by omega)
          · intro q_6
            replace H := f_t q_6 H
            exact h9ret x5 σ mσ fσ (by first | with_reducible assumption | with_reducible rfl | omega | assumption | rfl) (by first | with_reducible assumption | with_reducible rfl | omega | assumption | rfl) (H0.trans H.symm)
  have U7 := T 9
  have f0 : FX (fun id => False) (fun _ _ => False) σ0 σ0 := FX_rf
  have H := H0
  unfold F_J1_indexOfChar_4cfef at H
  refine s_J1_indexOfChar_4cfef_0 C hN ha1 ?_
  exact U7 a4 a2.toInt8.toInt32 a3 σ0 m0 f0 (by omega) (by omega) (by omega) (by omega) (by first | with_reducible assumption | with_reducible rfl | omega | assumption | rfl) H (by omega)
set_option maxRecDepth 100000 in
set_option maxHeartbeats 4000000 in
theorem kF_J1_indexOf_4cfef {l : Launch} {V : Vx} {a1 : Nat} {a2 : Int32} {a3 : Int32} {a4 : Int32} {σ0 : Sg} {Qk : Int32 → Sg → Prop} (ha1 : a1 < 8) (m0 : XI V σ0) (l_a3 : 0 ≤ a3.toInt) (u_a3 : a3.toInt ≤ 0) (l_a4 : 0 ≤ a4.toInt) (u_a4 : a4.toInt ≤ 6) (h9ret : ∀ (r : Int32) (σ' : Sg), XI V σ' → FX (fun id => False) (fun _ _ => False) σ0 σ' → (-1 ≤ r.toInt) → (r.toInt < (slen a1 : Int)) → (F_J1_indexOf_4cfef a1 a2 a3 a4 σ0 = (r, σ')) → Qk r σ') : K_J1_indexOf_4cfef l V a1 a2 a3 a4 σ0 Qk := by
  refine e_J1_indexOf_4cfef (fun M hl hV hN C => ?_)
  subst hl
  subst hV
  obtain ⟨R9, H0⟩ : ∃ R9, F_J1_indexOf_4cfef a1 a2 a3 a4 σ0 = R9 := ⟨_, rfl⟩
  have hn := nI_slen ha1
  have f0 : FX (fun id => False) (fun _ _ => False) σ0 σ0 := FX_rf
  have H := H0
  unfold F_J1_indexOf_4cfef at H
  refine s_J1_indexOf_4cfef_0 C hN ha1 ?_
  refine kF_J1_canEncode_9a6ad  m0   (fun r2 σ1 mσ1 cσ1 hσ1 => ?_)
  obtain rfl := FX_nil cσ1
  replace H := f_b hσ1 H
  refine ⟨?_, ?_⟩
  · intro q_1
    replace H := f_f q_1 H
    have w_2 := Int32.toInt_lt r2
    have w_3 := Int32.le_toInt r2
    have b_4 : ¬ r2.toInt = 0 := fun h9 => q_1 (Int32.toInt_inj.mp h9)
    have z_5 : (0 : Int32).toInt = 0 := rfl
    intro v4 ev4
    replace H := f_l ev4 H
    have t_6 := jmax_b a3 (0 : Int32)
    have t_7 : v4.toInt = (jmax a3 (0 : Int32)).toInt := congrArg Int32.toInt ev4
    have t_8 := nI_slen (ha1)
    intro v5 ev5
    replace H := f_l ev5 H
    have t_9 := jmin_b a4 (nI (slen a1))
    have t_10 : v5.toInt = (jmin a4 (nI (slen a1))).toInt := congrArg Int32.toInt ev5
    refine ⟨?_, ?_⟩
    · intro q_11
      replace H := f_t q_11 H
      have w_12 := Int32.toInt_lt v5
      have w_13 := Int32.le_toInt v5
      have b_14 : v4.toInt < v5.toInt := Int32.lt_iff_toInt_lt.mp q_11
      refine kF_J1_indexOfChar_4cfef ha1 m0  (by omega) (by omega) (by omega) (by omega) (by first | with_reducible assumption | with_reducible rfl | omega | assumption | rfl) (fun r8 σ7 mσ7 cσ7 (pσ7_0 : -1 ≤ r8.toInt) (pσ7_1 : r8.toInt < (slen a1 : Int)) hσ7 => ?_)
      obtain rfl := FX_nil cσ7
      replace H := f_b hσ7 H
      have w_15 := Int32.toInt_lt r8
      have w_16 := Int32.le_toInt r8
      exact h9ret r8 σ0 m0 f0 (by first | with_reducible assumption | with_reducible rfl | omega | assumption | rfl) (by first | with_reducible assumption | with_reducible rfl | omega | assumption | rfl) (H0.trans H.symm)
    · intro q_11
      replace H := f_f q_11 H
      have w_17 := Int32.toInt_lt v5
      have w_18 := Int32.le_toInt v5
      have b_19 : ¬ v4.toInt < v5.toInt := fun h9 => q_11 (Int32.lt_iff_toInt_lt.mpr h9)
      have z_20 : (-1 : Int32).toInt = -1 := rfl
      exact h9ret (-1 : Int32) σ0 m0 f0 (by first | with_reducible assumption | with_reducible rfl | omega | assumption | rfl) (by first | with_reducible assumption | with_reducible rfl | omega | assumption | rfl) (H0.trans H.symm)
  · intro q_1
    replace H := f_t q_1 H
    have w_21 := Int32.toInt_lt r2
    have w_22 := Int32.le_toInt r2
    have b_23 : r2.toInt = 0 := congrArg Int32.toInt q_1
    have z_24 : (-1 : Int32).toInt = -1 := rfl
    exact h9ret (-1 : Int32) σ0 m0 f0 (by first | with_reducible assumption | with_reducible rfl | omega | assumption | rfl) (by first | with_reducible assumption | with_reducible rfl | omega | assumption | rfl) (H0.trans H.symm)
set_option maxRecDepth 100000 in
set_option maxHeartbeats 4000000 in
theorem kF_J0_indexOf_7cf53 {l : Launch} {V : Vx} {c0 : Nat} {a1 : Int32} {a2 : Int32} {σ0 : Sg} {Qk : Int32 → Sg → Prop} (hc0 : c0 < 8) (m0 : XI V σ0) (l_a2 : 0 ≤ a2.toInt) (u_a2 : a2.toInt ≤ 0) (h9ret : ∀ (r : Int32) (σ' : Sg), XI V σ' → FX (fun id => False) (fun _ _ => False) σ0 σ' → (-1 ≤ r.toInt) → (r.toInt < (slen c0 : Int)) → (F_J0_indexOf_7cf53 c0 a1 a2 σ0 = (r, σ')) → Qk r σ') : K_J0_indexOf_7cf53 l V c0 a1 a2 σ0 Qk := by
  refine e_J0_indexOf_7cf53 (fun M hl hV hN C => ?_)
  subst hl
  subst hV
  obtain ⟨R9, H0⟩ : ∃ R9, F_J0_indexOf_7cf53 c0 a1 a2 σ0 = R9 := ⟨_, rfl⟩
  have hn := nI_slen hc0
  have f0 : FX (fun id => False) (fun _ _ => False) σ0 σ0 := FX_rf
  have H := H0
  unfold F_J0_indexOf_7cf53 at H
  refine s_J0_indexOf_7cf53_0 C hN hc0 ?_
  refine kF_J0_isLatin1_aae02 hc0 m0   (fun r2 σ1 mσ1 cσ1 (pσ1_0 : r2.toInt = 1) hσ1 => ?_)
  obtain rfl := FX_nil cσ1
  replace H := f_b hσ1 H
  refine ⟨?_, ?_⟩
  · intro q_1
    replace H := f_t q_1 H
    have w_2 := Int32.toInt_lt r2
    have w_3 := Int32.le_toInt r2
    have b_4 : r2.toInt = 0 := congrArg Int32.toInt q_1
    refine kF_J0_length_8abf5 hc0 m0   (fun r5 σ4 mσ4 cσ4 (pσ4_0 : r5.toInt = (slen c0 : Int)) hσ4 => ?_)
    obtain rfl := FX_nil cσ4
    replace H := f_b hσ4 H
    exfalso; omega
  · intro q_1
    replace H := f_f q_1 H
    have w_5 := Int32.toInt_lt r2
    have w_6 := Int32.le_toInt r2
    have b_7 : ¬ r2.toInt = 0 := fun h9 => q_1 (Int32.toInt_inj.mp h9)
    refine kF_J0_length_8abf5 hc0 m0   (fun r7 σ6 mσ6 cσ6 (pσ6_0 : r7.toInt = (slen c0 : Int)) hσ6 => ?_)
    obtain rfl := FX_nil cσ6
    replace H := f_b hσ6 H
    refine kF_J1_indexOf_4cfef hc0 m0  (by omega) (by omega) (by omega) (by omega) (fun r9 σ8 mσ8 cσ8 (pσ8_0 : -1 ≤ r9.toInt) (pσ8_1 : r9.toInt < (slen c0 : Int)) hσ8 => ?_)
    obtain rfl := FX_nil cσ8
    replace H := f_b hσ8 H
    have w_8 := Int32.toInt_lt r9
    have w_9 := Int32.le_toInt r9
    exact h9ret r9 σ0 m0 f0 (by first | with_reducible assumption | with_reducible rfl | omega | assumption | rfl) (by first | with_reducible assumption | with_reducible rfl | omega | assumption | rfl) (H0.trans H.symm)
set_option maxRecDepth 100000 in
set_option maxHeartbeats 4000000 in
theorem kF_J0_indexOf_0f7a4 {l : Launch} {V : Vx} {c0 : Nat} {a1 : Int32} {σ0 : Sg} {Qk : Int32 → Sg → Prop} (hc0 : c0 < 8) (m0 : XI V σ0) (h9ret : ∀ (r : Int32) (σ' : Sg), XI V σ' → FX (fun id => False) (fun _ _ => False) σ0 σ' → (-1 ≤ r.toInt) → (r.toInt < (slen c0 : Int)) → (F_J0_indexOf_0f7a4 c0 a1 σ0 = (r, σ')) → Qk r σ') : K_J0_indexOf_0f7a4 l V c0 a1 σ0 Qk := by
  refine e_J0_indexOf_0f7a4 (fun M hl hV hN C => ?_)
  subst hl
  subst hV
  obtain ⟨R9, H0⟩ : ∃ R9, F_J0_indexOf_0f7a4 c0 a1 σ0 = R9 := ⟨_, rfl⟩
  have f0 : FX (fun id => False) (fun _ _ => False) σ0 σ0 := FX_rf
  have H := H0
  unfold F_J0_indexOf_0f7a4 at H
  refine s_J0_indexOf_0f7a4_0 C hN hc0 ?_
  have z_1 : (0 : Int32).toInt = 0 := rfl
  refine kF_J0_indexOf_7cf53 hc0 m0  (by omega) (by omega) (fun r2 σ1 mσ1 cσ1 (pσ1_0 : -1 ≤ r2.toInt) (pσ1_1 : r2.toInt < (slen c0 : Int)) hσ1 => ?_)
  obtain rfl := FX_nil cσ1
  replace H := f_b hσ1 H
  have w_2 := Int32.toInt_lt r2
  have w_3 := Int32.le_toInt r2
  exact h9ret r2 σ0 m0 f0 (by first | with_reducible assumption | with_reducible rfl | omega | assumption | rfl) (by first | with_reducible assumption | with_reducible rfl | omega | assumption | rfl) (H0.trans H.symm)
set_option maxRecDepth 100000 in
set_option maxHeartbeats 4000000 in
theorem kF_X2_sign {l : Launch} {V : Vx} {c0 : Nat} {σ0 : Sg} {Qk : Int32 → Sg → Prop} (hc0 : kd c0 = (12, 0)) (lc0 : c0 ∈ ids (V)) (m0 : XI V σ0) (pre0 : gr σ0 c0 9 = some 50) (h9ret : ∀ (r : Int32) (σ' : Sg), XI V σ' → FX (fun id => False) (fun _ _ => False) σ0 σ' → (r.toInt = (sgn σ0 c0).toInt) → (F_X2_sign c0 σ0 = (r, σ')) → Qk r σ') : K_X2_sign l V c0 σ0 Qk := by
  refine e_X2_sign (fun M hl hV hN C => ?_)
  subst hl
  subst hV
  obtain ⟨R9, H0⟩ : ∃ R9, F_X2_sign c0 σ0 = R9 := ⟨_, rfl⟩
  have gc0 : hid _ := kdF_ge hc0
  have f0 : FX (fun id => False) (fun _ _ => False) σ0 σ0 := FX_rf
  have t_1 := XI_c1 m0 (id := c0) (k := 10) (lim_F0_10 hc0)
  have t_2 := XI_c1 m0 (id := c0) (k := 11) (lim_F0_11 hc0)
  have H := H0
  unfold F_X2_sign at H
  refine s_X2_sign_0 C hN hc0 lc0 ?_
  refine ⟨?_, ?_⟩
  · intro q_3
    exact absurd (pre0.symm.trans q_3) (by decide +kernel)
  · intro a4 q_3
    replace H := f_o q_3 H
    refine ⟨?_, ?_⟩
    · intro q_4
      replace H := f_t q_4 H
      have b_5 : (gi σ0 c0 10).toInt ≤ (gi σ0 c0 11).toInt := Int32.le_iff_toInt_le.mp q_4
      have z_6 : (-1 : Int32).toInt = -1 := rfl
      exact h9ret (-1 : Int32) σ0 m0 f0 (by first | exact congrArg Int32.toInt (sgn_a (by first | with_reducible assumption | assumption)).symm | exact congrArg Int32.toInt (sgn_b (by first | with_reducible assumption | assumption)).symm) (H0.trans H.symm)
    · intro q_4
      replace H := f_f q_4 H
      have b_7 : ¬ (gi σ0 c0 10).toInt ≤ (gi σ0 c0 11).toInt := fun h9 => q_4 (Int32.le_iff_toInt_le.mpr h9)
      have e9 : gr σ0 c0 9 = some 50 := ((m0.2.2.2 _ hc0).elim (fun z => by rw [z] at q_3; cases q_3) id)
      refine ⟨50, 100, e9, kd_50, fxl fx_50, ?_⟩
      replace H := f_o e9 H
      have hv_8 : vp_in (gi σ0 c0 11) 100 := vp_in_iff.mpr ⟨by omega, by omega⟩
      refine ⟨hv_8, ?_⟩
      have w_9 := Int32.toInt_lt (gi σ0 50 (gi σ0 c0 11).toNatClampNeg)
      have w_10 := Int32.le_toInt (gi σ0 50 (gi σ0 c0 11).toNatClampNeg)
      exact h9ret (gi σ0 50 (gi σ0 c0 11).toNatClampNeg) σ0 m0 f0 (by first | exact congrArg Int32.toInt (sgn_a (by first | with_reducible assumption | assumption)).symm | exact congrArg Int32.toInt (sgn_b (by first | with_reducible assumption | assumption)).symm) (H0.trans H.symm)
set_option maxRecDepth 100000 in
set_option maxHeartbeats 4000000 in
theorem kF_X2_isDigit {l : Launch} {V : Vx} {c0 : Nat} {σ0 : Sg} {Qk : Int32 → Sg → Prop} (hc0 : kd c0 = (12, 0)) (lc0 : c0 ∈ ids (V)) (m0 : XI V σ0) (pre0 : gr σ0 c0 9 = some 50) (h9ret : ∀ (r : Int32) (σ' : Sg), XI V σ' → FX (fun id => False) (fun _ _ => False) σ0 σ' → (0 ≤ r.toInt) → (r.toInt ≤ 1) → ((r.toInt = 1 ∧ 48 ≤ (sgn σ0 c0).toInt ∧ (sgn σ0 c0).toInt ≤ 57) ∨ r.toInt = 0) → (F_X2_isDigit c0 σ0 = (r, σ')) → Qk r σ') : K_X2_isDigit l V c0 σ0 Qk := by
  refine e_X2_isDigit (fun M hl hV hN C => ?_)
  subst hl
  subst hV
  obtain ⟨R9, H0⟩ : ∃ R9, F_X2_isDigit c0 σ0 = R9 := ⟨_, rfl⟩
  have gc0 : hid _ := kdF_ge hc0
  have f0 : FX (fun id => False) (fun _ _ => False) σ0 σ0 := FX_rf
  have t_1 := XI_c1 m0 (id := c0) (k := 10) (lim_F0_10 hc0)
  have t_2 := XI_c1 m0 (id := c0) (k := 11) (lim_F0_11 hc0)
  have H := H0
  unfold F_X2_isDigit at H
  refine s_X2_isDigit_0 C hN hc0 lc0 ?_
  refine kF_X2_sign hc0 lc0 m0  (by first | with_reducible assumption | with_reducible rfl | omega | assumption | rfl) (fun r2 σ1 mσ1 cσ1 (pσ1_0 : r2.toInt = (sgn σ0 c0).toInt) hσ1 => ?_)
  obtain rfl := FX_nil cσ1
  replace H := f_b hσ1 H
  refine ⟨?_, ?_⟩
  · intro q_3
    replace H := f_t q_3 H
    have w_4 := Int32.toInt_lt r2
    have w_5 := Int32.le_toInt r2
    have b_6 : r2.toInt < 48 := Int32.lt_iff_toInt_lt.mp q_3
    have z_7 : (0 : Int32).toInt = 0 := rfl
    exact h9ret (0 : Int32) σ0 m0 f0 (by omega) (by omega) (by first | with_reducible assumption | with_reducible rfl | omega | assumption | rfl) (H0.trans H.symm)
  · intro q_3
    replace H := f_f q_3 H
    have w_8 := Int32.toInt_lt r2
    have w_9 := Int32.le_toInt r2
    have b_10 : ¬ r2.toInt < 48 := fun h9 => q_3 (Int32.lt_iff_toInt_lt.mpr h9)
    refine kF_X2_sign hc0 lc0 m0  (by first | with_reducible assumption | with_reducible rfl | omega | assumption | rfl) (fun r5 σ4 mσ4 cσ4 (pσ4_0 : r5.toInt = (sgn σ0 c0).toInt) hσ4 => ?_)
    obtain rfl := FX_nil cσ4
    replace H := f_b hσ4 H
    refine ⟨?_, ?_⟩
    · intro q_11
      replace H := f_t q_11 H
      have w_12 := Int32.toInt_lt r5
      have w_13 := Int32.le_toInt r5
      have b_14 : (57 : Int) < r5.toInt := Int32.lt_iff_toInt_lt.mp q_11
      have z_15 : (0 : Int32).toInt = 0 := rfl
      exact h9ret (0 : Int32) σ0 m0 f0 (by omega) (by omega) (by first | with_reducible assumption | with_reducible rfl | omega | assumption | rfl) (H0.trans H.symm)
    · intro q_11
      replace H := f_f q_11 H
      have w_16 := Int32.toInt_lt r5
      have w_17 := Int32.le_toInt r5
      have b_18 : ¬ (57 : Int) < r5.toInt := fun h9 => q_11 (Int32.lt_iff_toInt_lt.mpr h9)
      have z_19 : (1 : Int32).toInt = 1 := rfl
      exact h9ret (1 : Int32) σ0 m0 f0 (by omega) (by omega) (by first | with_reducible assumption | with_reducible rfl | omega | assumption | rfl) (H0.trans H.symm)
set_option maxRecDepth 100000 in
set_option maxHeartbeats 4000000 in
theorem kF_X2_takes {l : Launch} {V : Vx} {c0 : Nat} {a1 : Int32} {σ0 : Sg} {Qk : Int32 → Sg → Prop} (hc0 : kd c0 = (12, 0)) (lc0 : c0 ∈ ids (V)) (m0 : XI V σ0) (l_a1 : 0 ≤ a1.toInt) (u_a1 : a1.toInt ≤ 65535) (pre0 : gr σ0 c0 9 = some 50) (h9ret : ∀ (r : Int32) (σ' : Sg), XI V σ' → FX (fun id => False) (fun id k => (id = c0 ∧ k = 11)) σ0 σ' → (0 ≤ r.toInt) → (r.toInt ≤ 1) → (F_X2_takes c0 a1 σ0 = (r, σ')) → Qk r σ') : K_X2_takes l V c0 a1 σ0 Qk := by
  refine e_X2_takes (fun M hl hV hN C => ?_)
  subst hl
  subst hV
  obtain ⟨R9, H0⟩ : ∃ R9, F_X2_takes c0 a1 σ0 = R9 := ⟨_, rfl⟩
  have gc0 : hid _ := kdF_ge hc0
  have f0 : FX (fun id => False) (fun id k => (id = c0 ∧ k = 11)) σ0 σ0 := FX_rf
  have t_1 := XI_c1 m0 (id := c0) (k := 10) (lim_F0_10 hc0)
  have t_2 := XI_c1 m0 (id := c0) (k := 11) (lim_F0_11 hc0)
  have H := H0
  unfold F_X2_takes at H
  refine s_X2_takes_0 C hN hc0 lc0 ?_
  refine kF_X2_sign hc0 lc0 m0  (by first | with_reducible assumption | with_reducible rfl | omega | assumption | rfl) (fun r2 σ1 mσ1 cσ1 (pσ1_0 : r2.toInt = (sgn σ0 c0).toInt) hσ1 => ?_)
  obtain rfl := FX_nil cσ1
  replace H := f_b hσ1 H
  have hlt := fun h9 => @sgn_lt σ0 c0 h9
  refine ⟨?_, ?_⟩
  · intro q_3
    replace H := f_t q_3 H
    have w_4 := Int32.toInt_lt r2
    have w_5 := Int32.le_toInt r2
    have b_6 : r2.toInt = a1.toInt := congrArg Int32.toInt q_3
    intro σ4 eσ4
    replace H := f_l eσ4 H
    have t_7 : ((gi σ0 c0 11) + (1 : Int32)).toInt = (gi σ0 c0 11).toInt + 1 := i_add (x := (gi σ0 c0 11)) (y := (1 : Int32)) (by show (_ : Int) ≤ (gi σ0 c0 11).toInt + 1; omega) (by show (gi σ0 c0 11).toInt + 1 ≤ (_ : Int); omega)
    have mσ4 : XI (mV M) σ4 := by rw [eσ4]; exact XIs_b m0 (lim_F0_11 hc0) (by omega) (by omega)
    have fσ4 : FX (fun id => False) (fun id k => (id = c0 ∧ k = 11)) σ0 σ4 := by rw [eσ4]; exact FX_si f0 (Or.inr (show (c0 = c0 ∧ 11 = 11) from ⟨rfl, rfl⟩))
    have k_8 : (gi σ4 c0 10).toInt = (gi σ0 c0 10).toInt := gk_r eσ4 rfl
    have k_9 : (gi σ4 c0 11).toInt = ((gi σ0 c0 11) + (1 : Int32)).toInt := by rw [eσ4]; exact congrArg Int32.toInt gi_si_eq
    have kr_10 : gr σ4 c0 9 = some 50 := ((by rw [eσ4]; rfl : gr σ4 c0 9 = gr σ0 c0 9)).trans pre0
    have z_11 : (1 : Int32).toInt = 1 := rfl
    exact h9ret (1 : Int32) σ4 mσ4 fσ4 (by omega) (by omega) (H0.trans H.symm)
  · intro q_3
    replace H := f_f q_3 H
    have w_12 := Int32.toInt_lt r2
    have w_13 := Int32.le_toInt r2
    have b_14 : ¬ r2.toInt = a1.toInt := fun h9 => q_3 (Int32.toInt_inj.mp h9)
    have z_15 : (0 : Int32).toInt = 0 := rfl
    exact h9ret (0 : Int32) σ0 m0 f0 (by omega) (by omega) (H0.trans H.symm)
set_option maxRecDepth 100000 in
set_option maxHeartbeats 4000000 in
theorem kF_X2_writes {l : Launch} {V : Vx} {c0 : Nat} {a1 : Int32} {σ0 : Sg} {Qk : Sg → Prop} (hc0 : kd c0 = (12, 0)) (lc0 : c0 ∈ ids (V)) (m0 : XI V σ0) (l_a1 : -3 ≤ a1.toInt) (u_a1 : a1.toInt ≤ 1799) (h9ret : ∀ (σ' : Sg), XI V σ' → FX (fun id => id = c0 + 1) (fun id k => (id = c0 ∧ k = 4)) σ0 σ' → (F_X2_writes c0 a1 σ0 = σ') → Qk σ') : K_X2_writes l V c0 a1 σ0 Qk := by
  refine e_X2_writes (fun M hl hV hN C => ?_)
  subst hl
  subst hV
  obtain ⟨R9, H0⟩ : ∃ R9, F_X2_writes c0 a1 σ0 = R9 := ⟨_, rfl⟩
  have gc0 : hid _ := kdF_ge hc0
  have f0 : FX (fun id => id = c0 + 1) (fun id k => (id = c0 ∧ k = 4)) σ0 σ0 := FX_rf
  have t_1 := XI_c1 m0 (id := c0) (k := 4) (lim_F0_4 hc0)
  have H := H0
  unfold F_X2_writes at H
  refine s_X2_writes_0 C hN hc0 lc0 ?_
  refine ⟨?_, ?_⟩
  · intro q_2
    replace H := f_t q_2 H
    have b_3 : (100 : Int) ≤ (gi σ0 c0 4).toInt := Int32.le_iff_toInt_le.mp q_2
    exact h9ret σ0 m0 f0 (H0.trans H.symm)
  · intro q_2
    replace H := f_f q_2 H
    have b_4 : ¬ (100 : Int) ≤ (gi σ0 c0 4).toInt := fun h9 => q_2 (Int32.le_iff_toInt_le.mpr h9)
    have hv_5 : vp_in (gi σ0 c0 4) 100 := vp_in_iff.mpr ⟨by omega, by omega⟩
    refine ⟨hv_5, ?_⟩
    intro σ3 eσ3
    replace H := f_l eσ3 H
    have mσ3 : XI (mV M) σ3 := by rw [eσ3]; exact XIs_b m0 (lim_F1 hc0 _) (by omega) (by omega)
    have fσ3 : FX (fun id => id = c0 + 1) (fun id k => (id = c0 ∧ k = 4)) σ0 σ3 := by rw [eσ3]; exact FX_si f0 (Or.inl (show c0 + 1 = c0 + 1 from rfl))
    have k_6 : (gi σ3 c0 4).toInt = (gi σ0 c0 4).toInt := by rw [eσ3]; exact congrArg Int32.toInt (gi_si_ne (Or.inl (by first | omega | (have ugc0 := un gc0; omega))))
    intro σ4 eσ4
    replace H := f_l eσ4 H
    have t_7 := XI_c1 mσ3 (id := c0) (k := 4) (lim_F0_4 hc0)
    have t_8 : ((gi σ3 c0 4) + (1 : Int32)).toInt = (gi σ3 c0 4).toInt + 1 := i_add (x := (gi σ3 c0 4)) (y := (1 : Int32)) (by show (_ : Int) ≤ (gi σ3 c0 4).toInt + 1; omega) (by show (gi σ3 c0 4).toInt + 1 ≤ (_ : Int); omega)
    have mσ4 : XI (mV M) σ4 := by rw [eσ4]; exact XIs_b mσ3 (lim_F0_4 hc0) (by omega) (by omega)
    have fσ4 : FX (fun id => id = c0 + 1) (fun id k => (id = c0 ∧ k = 4)) σ0 σ4 := by rw [eσ4]; exact FX_si fσ3 (Or.inr (show (c0 = c0 ∧ 4 = 4) from ⟨rfl, rfl⟩))
    have k_9 : (gi σ4 c0 4).toInt = ((gi σ3 c0 4) + (1 : Int32)).toInt := by rw [eσ4]; exact congrArg Int32.toInt gi_si_eq
    exact h9ret σ4 mσ4 fσ4 (H0.trans H.symm)
set_option maxRecDepth 100000 in
set_option maxHeartbeats 4000000 in
theorem kF_X2_keeps {l : Launch} {V : Vx} {c0 : Nat} {a1 : Int32} {a2 : Int32} {σ0 : Sg} {Qk : Sg → Prop} (hc0 : kd c0 = (12, 0)) (lc0 : c0 ∈ ids (V)) (m0 : XI V σ0) (h9ret : ∀ (σ' : Sg), XI V σ' → FX (fun id => id = c0 + 2 ∨ id = c0 + 3 ∨ id = c0 + 4) (fun id k => (id = c0 ∧ k = 0) ∨ (id = c0 ∧ k = 1) ∨ (id = c0 ∧ k = 2) ∨ (id = c0 ∧ k = 8)) σ0 σ' → (F_X2_keeps c0 a1 a2 σ0 = σ') → Qk σ') : K_X2_keeps l V c0 a1 a2 σ0 Qk := by
  refine e_X2_keeps (fun M hl hV hN C => ?_)
  subst hl
  subst hV
  obtain ⟨R9, H0⟩ : ∃ R9, F_X2_keeps c0 a1 a2 σ0 = R9 := ⟨_, rfl⟩
  have gc0 : hid _ := kdF_ge hc0
  have T : ∀ n : Nat, (∀ (x1 : Int32) (x2 : Int32) (σ : Sg), XI (mV M) σ → FX (fun id => id = c0 + 2 ∨ id = c0 + 3 ∨ id = c0 + 4) (fun id k => (id = c0 ∧ k = 0) ∨ (id = c0 ∧ k = 1) ∨ (id = c0 ∧ k = 2) ∨ (id = c0 ∧ k = 8)) σ0 σ → (LF_X2_keeps c0 n x1 x2 σ = R9) → 1 < n → PS M 40 [(0, .ref c0), (1, .int x1), (2, .int x2)] [] σ (0, 0)) := by
    intro n
    induction n with
    | zero => exact fun _ _ _ _ _ _ h8 => absurd h8 (Nat.not_lt_zero _)
    | succ n ih =>
      have ih40 := ih
      · intro x1 x2 σ mσ fσ H hmu
        replace H : LB_X2_keeps_40 c0 (LF_X2_keeps c0 n) x1 x2 σ = R9 := H
        unfold LB_X2_keeps_40 at H
        have k_1 : (gi σ c0 4).toInt = (gi σ0 c0 4).toInt := congrArg Int32.toInt (FX_i fσ (show ¬ (c0 = c0 + 2 ∨ c0 = c0 + 3 ∨ c0 = c0 + 4) from by first | omega | (have ugc0 := un gc0; omega)) (show ¬ ((c0 = c0 ∧ 4 = 0) ∨ (c0 = c0 ∧ 4 = 1) ∨ (c0 = c0 ∧ 4 = 2) ∨ (c0 = c0 ∧ 4 = 8)) from by first | omega | (have ugc0 := un gc0; omega)))
        have t_2 := XI_c1 mσ (id := c0) (k := 4) (lim_F0_4 hc0)
        have t_3 := XI_c1 mσ (id := c0) (k := 8) (lim_F0_8 hc0)
        refine s_X2_keeps_40 C hN hc0 lc0 ?_
        refine ⟨?_, ?_⟩
        · intro q_4
          replace H := f_t q_4 H
          have b_5 : (10 : Int) ≤ (gi σ c0 8).toInt := Int32.le_iff_toInt_le.mp q_4
          exact h9ret σ mσ fσ (H0.trans H.symm)
        · intro q_4
          replace H := f_f q_4 H
          have b_6 : ¬ (10 : Int) ≤ (gi σ c0 8).toInt := fun h9 => q_4 (Int32.le_iff_toInt_le.mpr h9)
          have hv_7 : vp_in (gi σ c0 8) 10 := vp_in_iff.mpr ⟨by omega, by omega⟩
          refine ⟨hv_7, ?_⟩
          intro σ3 eσ3
          replace H := f_l eσ3 H
          have mσ3 : XI (mV M) σ3 := by rw [eσ3]; exact XIs_n mσ (lim_F2 hc0 _)
          have fσ3 : FX (fun id => id = c0 + 2 ∨ id = c0 + 3 ∨ id = c0 + 4) (fun id k => (id = c0 ∧ k = 0) ∨ (id = c0 ∧ k = 1) ∨ (id = c0 ∧ k = 2) ∨ (id = c0 ∧ k = 8)) σ0 σ3 := by rw [eσ3]; exact FX_si fσ (Or.inl (show c0 + 2 = c0 + 2 ∨ c0 + 2 = c0 + 3 ∨ c0 + 2 = c0 + 4 from Or.inl (rfl)))
          have k_8 : (gi σ3 c0 4).toInt = (gi σ c0 4).toInt := by rw [eσ3]; exact congrArg Int32.toInt (gi_si_ne (Or.inl (by first | omega | (have ugc0 := un gc0; omega))))
          have k_9 : (gi σ3 c0 8).toInt = (gi σ c0 8).toInt := by rw [eσ3]; exact congrArg Int32.toInt (gi_si_ne (Or.inl (by first | omega | (have ugc0 := un gc0; omega))))
          have t_10 := XI_c1 mσ3 (id := c0) (k := 8) (lim_F0_8 hc0)
          have hv_11 : vp_in (gi σ3 c0 8) 10 := vp_in_iff.mpr ⟨by omega, by omega⟩
          refine ⟨hv_11, ?_⟩
          intro σ5 eσ5
          replace H := f_l eσ5 H
          have mσ5 : XI (mV M) σ5 := by rw [eσ5]; exact XIs_n mσ3 (lim_F3 hc0 _)
          have fσ5 : FX (fun id => id = c0 + 2 ∨ id = c0 + 3 ∨ id = c0 + 4) (fun id k => (id = c0 ∧ k = 0) ∨ (id = c0 ∧ k = 1) ∨ (id = c0 ∧ k = 2) ∨ (id = c0 ∧ k = 8)) σ0 σ5 := by rw [eσ5]; exact FX_si fσ3 (Or.inl (show c0 + 3 = c0 + 2 ∨ c0 + 3 = c0 + 3 ∨ c0 + 3 = c0 + 4 from Or.inr (Or.inl (rfl))))
          have k_12 : (gi σ5 c0 4).toInt = (gi σ3 c0 4).toInt := by rw [eσ5]; exact congrArg Int32.toInt (gi_si_ne (Or.inl (by first | omega | (have ugc0 := un gc0; omega))))
          have k_13 : (gi σ5 c0 8).toInt = (gi σ3 c0 8).toInt := by rw [eσ5]; exact congrArg Int32.toInt (gi_si_ne (Or.inl (by first | omega | (have ugc0 := un gc0; omega))))
          have t_14 := XI_c1 mσ5 (id := c0) (k := 8) (lim_F0_8 hc0)
          have hv_15 : vp_in (gi σ5 c0 8) 10 := vp_in_iff.mpr ⟨by omega, by omega⟩
          refine ⟨hv_15, ?_⟩
          intro σ7 eσ7
          replace H := f_l eσ7 H
          have t_16 := XI_c1 mσ5 (id := c0) (k := 4) (lim_F0_4 hc0)
          have mσ7 : XI (mV M) σ7 := by rw [eσ7]; exact XIs_b mσ5 (lim_F4 hc0 _) (by omega) (by omega)
          have fσ7 : FX (fun id => id = c0 + 2 ∨ id = c0 + 3 ∨ id = c0 + 4) (fun id k => (id = c0 ∧ k = 0) ∨ (id = c0 ∧ k = 1) ∨ (id = c0 ∧ k = 2) ∨ (id = c0 ∧ k = 8)) σ0 σ7 := by rw [eσ7]; exact FX_si fσ5 (Or.inl (show c0 + 4 = c0 + 2 ∨ c0 + 4 = c0 + 3 ∨ c0 + 4 = c0 + 4 from Or.inr (Or.inr (rfl))))
          have k_17 : (gi σ7 c0 4).toInt = (gi σ5 c0 4).toInt := by rw [eσ7]; exact congrArg Int32.toInt (gi_si_ne (Or.inl (by first | omega | (have ugc0 := un gc0; omega))))
          have k_18 : (gi σ7 c0 8).toInt = (gi σ5 c0 8).toInt := by rw [eσ7]; exact congrArg Int32.toInt (gi_si_ne (Or.inl (by first | omega | (have ugc0 := un gc0; omega))))
          intro σ8 eσ8
          replace H := f_l eσ8 H
          have t_19 := XI_c1 mσ7 (id := c0) (k := 8) (lim_F0_8 hc0)
          have t_20 : ((gi σ7 c0 8) + (1 : Int32)).toInt = (gi σ7 c0 8).toInt + 1 := i_add (x := (gi σ7 c0 8)) (y := (1 : Int32)) (by show (_ : Int) ≤ (gi σ7 c0 8).toInt + 1; omega) (by show (gi σ7 c0 8).toInt + 1 ≤ (_ : Int); omega)
          have mσ8 : XI (mV M) σ8 := by rw [eσ8]; exact XIs_b mσ7 (lim_F0_8 hc0) (by omega) (by omega)
          have fσ8 : FX (fun id => id = c0 + 2 ∨ id = c0 + 3 ∨ id = c0 + 4) (fun id k => (id = c0 ∧ k = 0) ∨ (id = c0 ∧ k = 1) ∨ (id = c0 ∧ k = 2) ∨ (id = c0 ∧ k = 8)) σ0 σ8 := by rw [eσ8]; exact FX_si fσ7 (Or.inr (show (c0 = c0 ∧ 8 = 0) ∨ (c0 = c0 ∧ 8 = 1) ∨ (c0 = c0 ∧ 8 = 2) ∨ (c0 = c0 ∧ 8 = 8) from Or.inr (Or.inr (Or.inr (⟨rfl, rfl⟩)))))
          have k_21 : (gi σ8 c0 4).toInt = (gi σ7 c0 4).toInt := gk_r eσ8 rfl
          have k_22 : (gi σ8 c0 8).toInt = ((gi σ7 c0 8) + (1 : Int32)).toInt := by rw [eσ8]; exact congrArg Int32.toInt gi_si_eq
          exact h9ret σ8 mσ8 fσ8 (H0.trans H.symm)
  have U40 := T 9
  have f0 : FX (fun id => id = c0 + 2 ∨ id = c0 + 3 ∨ id = c0 + 4) (fun id k => (id = c0 ∧ k = 0) ∨ (id = c0 ∧ k = 1) ∨ (id = c0 ∧ k = 2) ∨ (id = c0 ∧ k = 8)) σ0 σ0 := FX_rf
  have t_23 := XI_c1 m0 (id := c0) (k := 4) (lim_F0_4 hc0)
  have t_24 := XI_c1 m0 (id := c0) (k := 8) (lim_F0_8 hc0)
  have H := H0
  unfold F_X2_keeps at H
  refine s_X2_keeps_0 C hN hc0 lc0 ?_
  refine ⟨?_, ?_⟩
  · intro q_25
    replace H := f_f q_25 H
    have w_26 := Int32.toInt_lt a1
    have w_27 := Int32.le_toInt a1
    have b_28 : ¬ a1.toInt = 2 := fun h9 => q_25 (Int32.toInt_inj.mp h9)
    refine ⟨?_, ?_⟩
    · intro q_29
      replace H := f_f q_29 H
      have b_30 : ¬ a1.toInt = 3 := fun h9 => q_29 (Int32.toInt_inj.mp h9)
      refine ⟨?_, ?_⟩
      · intro q_31
        replace H := f_t q_31 H
        have b_32 : a1.toInt ≤ 3 := Int32.le_iff_toInt_le.mp q_31
        have w_33 := Int32.toInt_lt a2
        have w_34 := Int32.le_toInt a2
        exact U40 a1 a2 σ0 m0 f0 H (by omega)
      · intro q_31
        replace H := f_f q_31 H
        have b_35 : ¬ a1.toInt ≤ 3 := fun h9 => q_31 (Int32.le_iff_toInt_le.mpr h9)
        have z_36 : (1 : Int32).toInt = 1 := rfl
        have w_37 := Int32.toInt_lt a2
        have w_38 := Int32.le_toInt a2
        intro v4 ev4
        replace H := f_l ev4 H
        have t_39 := jmax_b (1 : Int32) a2
        have t_40 : v4.toInt = (jmax (1 : Int32) a2).toInt := congrArg Int32.toInt ev4
        intro σ5 eσ5
        replace H := f_l eσ5 H
        have mσ5 : XI (mV M) σ5 := by rw [eσ5]; exact XIs_n m0 (lim_F0_n hc0 _ (by decide +kernel))
        have fσ5 : FX (fun id => id = c0 + 2 ∨ id = c0 + 3 ∨ id = c0 + 4) (fun id k => (id = c0 ∧ k = 0) ∨ (id = c0 ∧ k = 1) ∨ (id = c0 ∧ k = 2) ∨ (id = c0 ∧ k = 8)) σ0 σ5 := by rw [eσ5]; exact FX_si f0 (Or.inr (show (c0 = c0 ∧ 2 = 0) ∨ (c0 = c0 ∧ 2 = 1) ∨ (c0 = c0 ∧ 2 = 2) ∨ (c0 = c0 ∧ 2 = 8) from Or.inr (Or.inr (Or.inl (⟨rfl, rfl⟩)))))
        have k_41 : (gi σ5 c0 4).toInt = (gi σ0 c0 4).toInt := gk_r eσ5 rfl
        have k_42 : (gi σ5 c0 8).toInt = (gi σ0 c0 8).toInt := gk_r eσ5 rfl
        exact U40 a1 a2 σ5 mσ5 fσ5 H (by omega)
    · intro q_29
      replace H := f_t q_29 H
      have b_43 : a1.toInt = 3 := congrArg Int32.toInt q_29
      intro σ6 eσ6
      replace H := f_l eσ6 H
      have mσ6 : XI (mV M) σ6 := by rw [eσ6]; exact XIs_n m0 (lim_F0_n hc0 _ (by decide +kernel))
      have fσ6 : FX (fun id => id = c0 + 2 ∨ id = c0 + 3 ∨ id = c0 + 4) (fun id k => (id = c0 ∧ k = 0) ∨ (id = c0 ∧ k = 1) ∨ (id = c0 ∧ k = 2) ∨ (id = c0 ∧ k = 8)) σ0 σ6 := by rw [eσ6]; exact FX_si f0 (Or.inr (show (c0 = c0 ∧ 1 = 0) ∨ (c0 = c0 ∧ 1 = 1) ∨ (c0 = c0 ∧ 1 = 2) ∨ (c0 = c0 ∧ 1 = 8) from Or.inr (Or.inl (⟨rfl, rfl⟩))))
      have k_44 : (gi σ6 c0 4).toInt = (gi σ0 c0 4).toInt := gk_r eσ6 rfl
      have k_45 : (gi σ6 c0 8).toInt = (gi σ0 c0 8).toInt := gk_r eσ6 rfl
      have w_46 := Int32.toInt_lt a2
      have w_47 := Int32.le_toInt a2
      exact U40 a1 a2 σ6 mσ6 fσ6 H (by omega)
  · intro q_25
    replace H := f_t q_25 H
    have w_48 := Int32.toInt_lt a1
    have w_49 := Int32.le_toInt a1
    have b_50 : a1.toInt = 2 := congrArg Int32.toInt q_25
    intro σ7 eσ7
    replace H := f_l eσ7 H
    have mσ7 : XI (mV M) σ7 := by rw [eσ7]; exact XIs_n m0 (lim_F0_n hc0 _ (by decide +kernel))
    have fσ7 : FX (fun id => id = c0 + 2 ∨ id = c0 + 3 ∨ id = c0 + 4) (fun id k => (id = c0 ∧ k = 0) ∨ (id = c0 ∧ k = 1) ∨ (id = c0 ∧ k = 2) ∨ (id = c0 ∧ k = 8)) σ0 σ7 := by rw [eσ7]; exact FX_si f0 (Or.inr (show (c0 = c0 ∧ 0 = 0) ∨ (c0 = c0 ∧ 0 = 1) ∨ (c0 = c0 ∧ 0 = 2) ∨ (c0 = c0 ∧ 0 = 8) from Or.inl (⟨rfl, rfl⟩)))
    have k_51 : (gi σ7 c0 4).toInt = (gi σ0 c0 4).toInt := gk_r eσ7 rfl
    have k_52 : (gi σ7 c0 8).toInt = (gi σ0 c0 8).toInt := gk_r eσ7 rfl
    have w_53 := Int32.toInt_lt a2
    have w_54 := Int32.le_toInt a2
    exact U40 a1 a2 σ7 mσ7 fσ7 H (by omega)
set_option maxRecDepth 100000 in
set_option maxHeartbeats 4000000 in
theorem kF_X2_readsNumber {l : Launch} {V : Vx} {c0 : Nat} {σ0 : Sg} {Qk : Int32 → Sg → Prop} (hc0 : kd c0 = (12, 0)) (lc0 : c0 ∈ ids (V)) (m0 : XI V σ0) (pre0 : gr σ0 c0 9 = some 50) (h9ret : ∀ (r : Int32) (σ' : Sg), XI V σ' → FX (fun id => False) (fun id k => (id = c0 ∧ k = 11)) σ0 σ' → (-1 ≤ r.toInt) → (r.toInt ≤ 99) → (F_X2_readsNumber c0 σ0 = (r, σ')) → Qk r σ') : K_X2_readsNumber l V c0 σ0 Qk := by
  refine e_X2_readsNumber (fun M hl hV hN C => ?_)
  subst hl
  subst hV
  obtain ⟨R9, H0⟩ : ∃ R9, F_X2_readsNumber c0 σ0 = R9 := ⟨_, rfl⟩
  have gc0 : hid _ := kdF_ge hc0
  have f0 : FX (fun id => False) (fun id k => (id = c0 ∧ k = 11)) σ0 σ0 := FX_rf
  have t_1 := XI_c1 m0 (id := c0) (k := 10) (lim_F0_10 hc0)
  have t_2 := XI_c1 m0 (id := c0) (k := 11) (lim_F0_11 hc0)
  have H := H0
  unfold F_X2_readsNumber at H
  refine s_X2_readsNumber_0 C hN hc0 lc0 ?_
  refine kF_X2_isDigit hc0 lc0 m0  (by first | with_reducible assumption | with_reducible rfl | omega | assumption | rfl) (fun r2 σ1 mσ1 cσ1 plσ1 phσ1 (pσ1_0 : (r2.toInt = 1 ∧ 48 ≤ (sgn σ0 c0).toInt ∧ (sgn σ0 c0).toInt ≤ 57) ∨ r2.toInt = 0) hσ1 => ?_)
  obtain rfl := FX_nil cσ1
  replace H := f_b hσ1 H
  refine ⟨?_, ?_⟩
  · intro q_3
    replace H := f_f q_3 H
    have b_4 : ¬ r2.toInt = 0 := fun h9 => q_3 (Int32.toInt_inj.mp h9)
    refine kF_X2_sign hc0 lc0 m0  (by first | with_reducible assumption | with_reducible rfl | omega | assumption | rfl) (fun r5 σ4 mσ4 cσ4 (pσ4_0 : r5.toInt = (sgn σ0 c0).toInt) hσ4 => ?_)
    obtain rfl := FX_nil cσ4
    replace H := f_b hσ4 H
    have hlt := fun h9 => @sgn_lt σ0 c0 h9
    intro v6 ev6
    replace H := f_l ev6 H
    have u6 : v6.toInt = r5.toInt - 48 := by rw [ev6]; exact i_sub (y := (48 : Int32)) (by show _ ≤ r5.toInt - 48; omega) (by show r5.toInt - 48 ≤ _; omega)
    intro σ7 eσ7
    replace H := f_l eσ7 H
    have t_5 : ((gi σ0 c0 11) + (1 : Int32)).toInt = (gi σ0 c0 11).toInt + 1 := i_add (x := (gi σ0 c0 11)) (y := (1 : Int32)) (by show (_ : Int) ≤ (gi σ0 c0 11).toInt + 1; omega) (by show (gi σ0 c0 11).toInt + 1 ≤ (_ : Int); omega)
    have mσ7 : XI (mV M) σ7 := by rw [eσ7]; exact XIs_b m0 (lim_F0_11 hc0) (by omega) (by omega)
    have fσ7 : FX (fun id => False) (fun id k => (id = c0 ∧ k = 11)) σ0 σ7 := by rw [eσ7]; exact FX_si f0 (Or.inr (show (c0 = c0 ∧ 11 = 11) from ⟨rfl, rfl⟩))
    have k_6 : (gi σ7 c0 10).toInt = (gi σ0 c0 10).toInt := gk_r eσ7 rfl
    have k_7 : (gi σ7 c0 11).toInt = ((gi σ0 c0 11) + (1 : Int32)).toInt := by rw [eσ7]; exact congrArg Int32.toInt gi_si_eq
    have kr_8 : gr σ7 c0 9 = some 50 := ((by rw [eσ7]; rfl : gr σ7 c0 9 = gr σ0 c0 9)).trans pre0
    refine kF_X2_isDigit hc0 lc0 mσ7  (by first | with_reducible assumption | with_reducible rfl | omega | assumption | rfl) (fun r9 σ8 mσ8 cσ8 plσ8 phσ8 (pσ8_0 : (r9.toInt = 1 ∧ 48 ≤ (sgn σ7 c0).toInt ∧ (sgn σ7 c0).toInt ≤ 57) ∨ r9.toInt = 0) hσ8 => ?_)
    obtain rfl := FX_nil cσ8
    replace H := f_b hσ8 H
    have t_9 := XI_c1 mσ7 (id := c0) (k := 10) (lim_F0_10 hc0)
    have t_10 := XI_c1 mσ7 (id := c0) (k := 11) (lim_F0_11 hc0)
    refine ⟨?_, ?_⟩
    · intro q_11
      replace H := f_t q_11 H
      have b_12 : r9.toInt = 0 := congrArg Int32.toInt q_11
      have w_13 := Int32.toInt_lt v6
      have w_14 := Int32.le_toInt v6
      exact h9ret v6 σ7 mσ7 fσ7 (by omega) (by omega) (H0.trans H.symm)
    · intro q_11
      replace H := f_f q_11 H
      have b_15 : ¬ r9.toInt = 0 := fun h9 => q_11 (Int32.toInt_inj.mp h9)
      refine kF_X2_sign hc0 lc0 mσ7  (by first | with_reducible assumption | with_reducible rfl | omega | assumption | rfl) (fun r12 σ11 mσ11 cσ11 (pσ11_0 : r12.toInt = (sgn σ7 c0).toInt) hσ11 => ?_)
      obtain rfl := FX_nil cσ11
      replace H := f_b hσ11 H
      have hlt := fun h9 => @sgn_lt σ7 c0 h9
      intro v13 ev13
      replace H := f_l ev13 H
      have ua : ((10 : Int32) * v6).toInt = 10 * v6.toInt := i_mull rfl (by omega) (by omega)
      have ub : (((10 : Int32) * v6) + r12).toInt = 10 * v6.toInt + r12.toInt := by rw [i_add (by omega) (by omega)]; omega
      have u13 : v13.toInt = 10 * v6.toInt + r12.toInt - 48 := by rw [ev13, i_sub (y := (48 : Int32)) (by show _ ≤ _ - 48; omega) (by show _ - 48 ≤ _; omega)]; show _ - 48 = _; omega
      intro σ14 eσ14
      replace H := f_l eσ14 H
      have t_16 : ((gi σ7 c0 11) + (1 : Int32)).toInt = (gi σ7 c0 11).toInt + 1 := i_add (x := (gi σ7 c0 11)) (y := (1 : Int32)) (by show (_ : Int) ≤ (gi σ7 c0 11).toInt + 1; omega) (by show (gi σ7 c0 11).toInt + 1 ≤ (_ : Int); omega)
      have mσ14 : XI (mV M) σ14 := by rw [eσ14]; exact XIs_b mσ7 (lim_F0_11 hc0) (by omega) (by omega)
      have fσ14 : FX (fun id => False) (fun id k => (id = c0 ∧ k = 11)) σ0 σ14 := by rw [eσ14]; exact FX_si fσ7 (Or.inr (show (c0 = c0 ∧ 11 = 11) from ⟨rfl, rfl⟩))
      have k_17 : (gi σ14 c0 10).toInt = (gi σ7 c0 10).toInt := gk_r eσ14 rfl
      have k_18 : (gi σ14 c0 11).toInt = ((gi σ7 c0 11) + (1 : Int32)).toInt := by rw [eσ14]; exact congrArg Int32.toInt gi_si_eq
      have kr_19 : gr σ14 c0 9 = some 50 := ((by rw [eσ14]; rfl : gr σ14 c0 9 = gr σ7 c0 9)).trans kr_8
      have w_20 := Int32.toInt_lt v13
      have w_21 := Int32.le_toInt v13
      exact h9ret v13 σ14 mσ14 fσ14 (by omega) (by omega) (H0.trans H.symm)
  · intro q_3
    replace H := f_t q_3 H
    have b_22 : r2.toInt = 0 := congrArg Int32.toInt q_3
    have z_23 : (-1 : Int32).toInt = -1 := rfl
    exact h9ret (-1 : Int32) σ0 m0 f0 (by omega) (by omega) (H0.trans H.symm)
set_option maxRecDepth 100000 in
set_option maxHeartbeats 4000000 in
theorem kF_X2_signAmong {l : Launch} {V : Vx} {c0 : Nat} {a1 : Nat} {σ0 : Sg} {Qk : Int32 → Sg → Prop} (hc0 : kd c0 = (12, 0)) (lc0 : c0 ∈ ids (V)) (ha1 : a1 < 8) (m0 : XI V σ0) (pre0 : gr σ0 c0 9 = some 50) (h9ret : ∀ (r : Int32) (σ' : Sg), XI V σ' → FX (fun id => False) (fun _ _ => False) σ0 σ' → (-1 ≤ r.toInt) → (r.toInt ≤ 5) → (r.toInt = -1 ∨ (0 ≤ r.toInt ∧ r.toInt < (slen a1 : Int) ∧ 0 ≤ (sgn σ0 c0).toInt)) → (F_X2_signAmong c0 a1 σ0 = (r, σ')) → Qk r σ') : K_X2_signAmong l V c0 a1 σ0 Qk := by
  refine e_X2_signAmong (fun M hl hV hN C => ?_)
  subst hl
  subst hV
  obtain ⟨R9, H0⟩ : ∃ R9, F_X2_signAmong c0 a1 σ0 = R9 := ⟨_, rfl⟩
  have gc0 : hid _ := kdF_ge hc0
  have hn := nI_slen ha1
  have f0 : FX (fun id => False) (fun _ _ => False) σ0 σ0 := FX_rf
  have t_1 := XI_c1 m0 (id := c0) (k := 10) (lim_F0_10 hc0)
  have t_2 := XI_c1 m0 (id := c0) (k := 11) (lim_F0_11 hc0)
  have H := H0
  unfold F_X2_signAmong at H
  refine s_X2_signAmong_0 C hN hc0 lc0 ha1 ?_
  refine kF_X2_sign hc0 lc0 m0  (by first | with_reducible assumption | with_reducible rfl | omega | assumption | rfl) (fun r2 σ1 mσ1 cσ1 (pσ1_0 : r2.toInt = (sgn σ0 c0).toInt) hσ1 => ?_)
  obtain rfl := FX_nil cσ1
  replace H := f_b hσ1 H
  refine ⟨?_, ?_⟩
  · intro q_3
    replace H := f_t q_3 H
    have w_4 := Int32.toInt_lt r2
    have w_5 := Int32.le_toInt r2
    have b_6 : (0 : Int) ≤ r2.toInt := Int32.le_iff_toInt_le.mp q_3
    refine kF_J0_indexOf_0f7a4 ha1 m0   (fun r5 σ4 mσ4 cσ4 (pσ4_0 : -1 ≤ r5.toInt) (pσ4_1 : r5.toInt < (slen a1 : Int)) hσ4 => ?_)
    obtain rfl := FX_nil cσ4
    replace H := f_b hσ4 H
    have w_7 := Int32.toInt_lt r5
    have w_8 := Int32.le_toInt r5
    exact h9ret r5 σ0 m0 f0 (by omega) (by omega) (by first | with_reducible assumption | with_reducible rfl | omega | assumption | rfl) (H0.trans H.symm)
  · intro q_3
    replace H := f_f q_3 H
    have w_9 := Int32.toInt_lt r2
    have w_10 := Int32.le_toInt r2
    have b_11 : ¬ (0 : Int) ≤ r2.toInt := fun h9 => q_3 (Int32.le_iff_toInt_le.mpr h9)
    have z_12 : (-1 : Int32).toInt = -1 := rfl
    exact h9ret (-1 : Int32) σ0 m0 f0 (by omega) (by omega) (by first | with_reducible assumption | with_reducible rfl | omega | assumption | rfl) (H0.trans H.symm)
set_option maxRecDepth 100000 in
set_option maxHeartbeats 4000000 in
theorem kF_X2_readsTest {l : Launch} {V : Vx} {c0 : Nat} {σ0 : Sg} {Qk : Int32 → Sg → Prop} (hc0 : kd c0 = (12, 0)) (lc0 : c0 ∈ ids (V)) (m0 : XI V σ0) (pre0 : gr σ0 c0 9 = some 50) (h9ret : ∀ (r : Int32) (σ' : Sg), XI V σ' → FX (fun id => id = c0 + 1) (fun id k => (id = c0 ∧ k = 4) ∨ (id = c0 ∧ k = 11)) σ0 σ' → (0 ≤ r.toInt) → (r.toInt ≤ 1) → (F_X2_readsTest c0 σ0 = (r, σ')) → Qk r σ') : K_X2_readsTest l V c0 σ0 Qk := by
  refine e_X2_readsTest (fun M hl hV hN C => ?_)
  subst hl
  subst hV
  obtain ⟨R9, H0⟩ : ∃ R9, F_X2_readsTest c0 σ0 = R9 := ⟨_, rfl⟩
  have gc0 : hid _ := kdF_ge hc0
  have z60 : (slen 0 : Int) = 5 := rfl
  have z66 : (slen 6 : Int) = 6 := rfl
  have z67 : (slen 7 : Int) = 3 := rfl
  have f0 : FX (fun id => id = c0 + 1) (fun id k => (id = c0 ∧ k = 4) ∨ (id = c0 ∧ k = 11)) σ0 σ0 := FX_rf
  have t_1 := XI_c1 m0 (id := c0) (k := 10) (lim_F0_10 hc0)
  have t_2 := XI_c1 m0 (id := c0) (k := 11) (lim_F0_11 hc0)
  have H := H0
  unfold F_X2_readsTest at H
  refine s_X2_readsTest_0 C hN hc0 lc0 ?_
  have z_3 : (6 : Int32).toInt = 6 := rfl
  refine kF_X2_signAmong hc0 lc0 (by decide +kernel) m0  (by first | with_reducible assumption | with_reducible rfl | omega | assumption | rfl) (fun r2 σ1 mσ1 cσ1 plσ1 phσ1 (pσ1_0 : r2.toInt = -1 ∨ (0 ≤ r2.toInt ∧ r2.toInt < (slen 6 : Int) ∧ 0 ≤ (sgn σ0 c0).toInt)) hσ1 => ?_)
  obtain rfl := FX_nil cσ1
  replace H := f_b hσ1 H
  have hlt := fun h9 => @sgn_lt σ0 c0 h9
  refine ⟨?_, ?_⟩
  · intro q_4
    replace H := f_t q_4 H
    have b_5 : (0 : Int) ≤ r2.toInt := Int32.le_iff_toInt_le.mp q_4
    intro σ4 eσ4
    replace H := f_l eσ4 H
    have t_6 : ((gi σ0 c0 11) + (1 : Int32)).toInt = (gi σ0 c0 11).toInt + 1 := i_add (x := (gi σ0 c0 11)) (y := (1 : Int32)) (by show (_ : Int) ≤ (gi σ0 c0 11).toInt + 1; omega) (by show (gi σ0 c0 11).toInt + 1 ≤ (_ : Int); omega)
    have mσ4 : XI (mV M) σ4 := by rw [eσ4]; exact XIs_b m0 (lim_F0_11 hc0) (by omega) (by omega)
    have fσ4 : FX (fun id => id = c0 + 1) (fun id k => (id = c0 ∧ k = 4) ∨ (id = c0 ∧ k = 11)) σ0 σ4 := by rw [eσ4]; exact FX_si f0 (Or.inr (show (c0 = c0 ∧ 11 = 4) ∨ (c0 = c0 ∧ 11 = 11) from Or.inr (⟨rfl, rfl⟩)))
    have k_7 : (gi σ4 c0 10).toInt = (gi σ0 c0 10).toInt := gk_r eσ4 rfl
    have k_8 : (gi σ4 c0 11).toInt = ((gi σ0 c0 11) + (1 : Int32)).toInt := by rw [eσ4]; exact congrArg Int32.toInt gi_si_eq
    have kr_9 : gr σ4 c0 9 = some 50 := ((by rw [eσ4]; rfl : gr σ4 c0 9 = gr σ0 c0 9)).trans pre0
    have z_10 : (7 : Int32).toInt = 7 := rfl
    refine kF_X2_signAmong hc0 lc0 (by decide +kernel) mσ4  (by first | with_reducible assumption | with_reducible rfl | omega | assumption | rfl) (fun r6 σ5 mσ5 cσ5 plσ5 phσ5 (pσ5_0 : r6.toInt = -1 ∨ (0 ≤ r6.toInt ∧ r6.toInt < (slen 7 : Int) ∧ 0 ≤ (sgn σ4 c0).toInt)) hσ5 => ?_)
    obtain rfl := FX_nil cσ5
    replace H := f_b hσ5 H
    have t_11 := XI_c1 mσ4 (id := c0) (k := 10) (lim_F0_10 hc0)
    have t_12 := XI_c1 mσ4 (id := c0) (k := 11) (lim_F0_11 hc0)
    have hlt := fun h9 => @sgn_lt σ4 c0 h9
    refine ⟨?_, ?_⟩
    · intro q_13
      replace H := f_t q_13 H
      have b_14 : (0 : Int) ≤ r6.toInt := Int32.le_iff_toInt_le.mp q_13
      intro σ8 eσ8
      replace H := f_l eσ8 H
      have t_15 : ((gi σ4 c0 11) + (1 : Int32)).toInt = (gi σ4 c0 11).toInt + 1 := i_add (x := (gi σ4 c0 11)) (y := (1 : Int32)) (by show (_ : Int) ≤ (gi σ4 c0 11).toInt + 1; omega) (by show (gi σ4 c0 11).toInt + 1 ≤ (_ : Int); omega)
      have mσ8 : XI (mV M) σ8 := by rw [eσ8]; exact XIs_b mσ4 (lim_F0_11 hc0) (by omega) (by omega)
      have fσ8 : FX (fun id => id = c0 + 1) (fun id k => (id = c0 ∧ k = 4) ∨ (id = c0 ∧ k = 11)) σ0 σ8 := by rw [eσ8]; exact FX_si fσ4 (Or.inr (show (c0 = c0 ∧ 11 = 4) ∨ (c0 = c0 ∧ 11 = 11) from Or.inr (⟨rfl, rfl⟩)))
      have k_16 : (gi σ8 c0 10).toInt = (gi σ4 c0 10).toInt := gk_r eσ8 rfl
      have k_17 : (gi σ8 c0 11).toInt = ((gi σ4 c0 11) + (1 : Int32)).toInt := by rw [eσ8]; exact congrArg Int32.toInt gi_si_eq
      have kr_18 : gr σ8 c0 9 = some 50 := ((by rw [eσ8]; rfl : gr σ8 c0 9 = gr σ4 c0 9)).trans kr_9
      refine kF_X2_readsNumber hc0 lc0 mσ8  (by first | with_reducible assumption | with_reducible rfl | omega | assumption | rfl) (fun r10 σ9 mσ9 cσ9 plσ9 phσ9 hσ9 => ?_)
      replace H := f_b hσ9 H
      have fσ9 : FX (fun id => id = c0 + 1) (fun id k => (id = c0 ∧ k = 4) ∨ (id = c0 ∧ k = 11)) σ0 σ9 := FX_tr fσ8 cσ9 (fun _ h9 => h9.elim) (fun x k (h9 : (x = c0 ∧ k = 11)) => (show (x = c0 + 1) ∨ ((x = c0 ∧ k = 4) ∨ (x = c0 ∧ k = 11)) from Or.inr (show (x = c0 ∧ k = 4) ∨ (x = c0 ∧ k = 11) from Or.inr (h9))))
      have k_19 : (gi σ9 c0 10).toInt = (gi σ8 c0 10).toInt := congrArg Int32.toInt (FX_i cσ9 id (show ¬ ((c0 = c0 ∧ 10 = 11)) from by first | omega | (have ugc0 := un gc0; omega)))
      have t_20 := XI_c1 mσ9 (id := c0) (k := 11) (lim_F0_11 hc0)
      have kr_21 : gr σ9 c0 9 = some 50 := (FX_r cσ9 id (show ¬ ((c0 = c0 ∧ 9 = 11)) from by first | omega | (have ugc0 := un gc0; omega))).trans kr_18
      refine ⟨?_, ?_⟩
      · intro q_22
        replace H := f_t q_22 H
        have b_23 : (0 : Int) ≤ r10.toInt := Int32.le_iff_toInt_le.mp q_22
        have t_24 : (r2 * (300 : Int32)).toInt = r2.toInt * 300 := i_mulr rfl (by omega) (by omega)
        have t_25 : (r6 * (100 : Int32)).toInt = r6.toInt * 100 := i_mulr rfl (by omega) (by omega)
        have t_26 : ((r2 * (300 : Int32)) + (r6 * (100 : Int32))).toInt = (r2 * (300 : Int32)).toInt + (r6 * (100 : Int32)).toInt := i_add (x := (r2 * (300 : Int32))) (y := (r6 * (100 : Int32))) (by show (_ : Int) ≤ (r2 * (300 : Int32)).toInt + (r6 * (100 : Int32)).toInt; omega) (by show (r2 * (300 : Int32)).toInt + (r6 * (100 : Int32)).toInt ≤ (_ : Int); omega)
        have t_27 : (((r2 * (300 : Int32)) + (r6 * (100 : Int32))) + r10).toInt = ((r2 * (300 : Int32)) + (r6 * (100 : Int32))).toInt + r10.toInt := i_add (x := ((r2 * (300 : Int32)) + (r6 * (100 : Int32)))) (y := r10) (by show (_ : Int) ≤ ((r2 * (300 : Int32)) + (r6 * (100 : Int32))).toInt + r10.toInt; omega) (by show ((r2 * (300 : Int32)) + (r6 * (100 : Int32))).toInt + r10.toInt ≤ (_ : Int); omega)
        refine kF_X2_writes hc0 lc0 mσ9  (by omega) (by omega) (fun σ12 mσ12 cσ12 hσ12 => ?_)
        replace H := f_v hσ12 H
        have fσ12 : FX (fun id => id = c0 + 1) (fun id k => (id = c0 ∧ k = 4) ∨ (id = c0 ∧ k = 11)) σ0 σ12 := FX_tr fσ9 cσ12 (fun x (h9 : x = c0 + 1) => (show x = c0 + 1 from h9)) (fun x k (h9 : (x = c0 ∧ k = 4)) => (show (x = c0 + 1) ∨ ((x = c0 ∧ k = 4) ∨ (x = c0 ∧ k = 11)) from Or.inr (show (x = c0 ∧ k = 4) ∨ (x = c0 ∧ k = 11) from Or.inl (h9))))
        have k_28 : (gi σ12 c0 10).toInt = (gi σ9 c0 10).toInt := congrArg Int32.toInt (FX_i cσ12 (show ¬ (c0 = c0 + 1) from by first | omega | (have ugc0 := un gc0; omega)) (show ¬ ((c0 = c0 ∧ 10 = 4)) from by first | omega | (have ugc0 := un gc0; omega)))
        have k_29 : (gi σ12 c0 11).toInt = (gi σ9 c0 11).toInt := congrArg Int32.toInt (FX_i cσ12 (show ¬ (c0 = c0 + 1) from by first | omega | (have ugc0 := un gc0; omega)) (show ¬ ((c0 = c0 ∧ 11 = 4)) from by first | omega | (have ugc0 := un gc0; omega)))
        have kr_30 : gr σ12 c0 9 = some 50 := (FX_r cσ12 (show ¬ (c0 = c0 + 1) from by first | omega | (have ugc0 := un gc0; omega)) (show ¬ ((c0 = c0 ∧ 9 = 4)) from by first | omega | (have ugc0 := un gc0; omega))).trans kr_21
        have z_31 : (1 : Int32).toInt = 1 := rfl
        exact h9ret (1 : Int32) σ12 mσ12 fσ12 (by omega) (by omega) (H0.trans H.symm)
      · intro q_22
        replace H := f_f q_22 H
        have b_32 : ¬ (0 : Int) ≤ r10.toInt := fun h9 => q_22 (Int32.le_iff_toInt_le.mpr h9)
        have z_33 : (0 : Int32).toInt = 0 := rfl
        exact h9ret (0 : Int32) σ9 mσ9 fσ9 (by omega) (by omega) (H0.trans H.symm)
    · intro q_13
      replace H := f_f q_13 H
      have b_34 : ¬ (0 : Int) ≤ r6.toInt := fun h9 => q_13 (Int32.le_iff_toInt_le.mpr h9)
      have z_35 : (0 : Int32).toInt = 0 := rfl
      exact h9ret (0 : Int32) σ4 mσ4 fσ4 (by omega) (by omega) (H0.trans H.symm)
  · intro q_4
    replace H := f_f q_4 H
    have b_36 : ¬ (0 : Int) ≤ r2.toInt := fun h9 => q_4 (Int32.le_iff_toInt_le.mpr h9)
    have z_37 : (0 : Int32).toInt = 0 := rfl
    exact h9ret (0 : Int32) σ0 m0 f0 (by omega) (by omega) (H0.trans H.symm)
set_option maxRecDepth 100000 in
set_option maxHeartbeats 4000000 in
theorem kF_X2_wordOf {l : Launch} {V : Vx} {a1 : Int32} {σ0 : Sg} {Qk : Nat → Sg → Prop} (m0 : XI V σ0) (h9ret : ∀ (r : Nat) (σ' : Sg), XI V σ' → FX (fun id => False) (fun _ _ => False) σ0 σ' → (∃ i : Nat, r = 200 + i ∧ i < 8) → (F_X2_wordOf a1 σ0 = (r, σ')) → Qk r σ') : K_X2_wordOf l V a1 σ0 Qk := by
  refine e_X2_wordOf (fun M hl hV hN C => ?_)
  subst hl
  subst hV
  obtain ⟨R9, H0⟩ : ∃ R9, F_X2_wordOf a1 σ0 = R9 := ⟨_, rfl⟩
  have f0 : FX (fun id => False) (fun _ _ => False) σ0 σ0 := FX_rf
  have H := H0
  unfold F_X2_wordOf at H
  refine s_X2_wordOf_0 C hN  ?_
  refine ⟨?_, ?_, ?_, ?_, ?_⟩
  · intro q_1
    replace H := f_f (by omega) H
    replace H := f_f (by omega) H
    replace H := f_f (by omega) H
    replace H := f_f (by omega) H
    exact h9ret (200 + 5) σ0 m0 f0 (⟨_, rfl, by decide +kernel⟩) (H0.trans H.symm)
  · intro q_1
    replace H := f_t q_1 H
    exact h9ret (200 + 1) σ0 m0 f0 (⟨_, rfl, by decide +kernel⟩) (H0.trans H.symm)
  · intro q_1
    replace H := f_f (by omega) H
    replace H := f_t q_1 H
    exact h9ret (200 + 2) σ0 m0 f0 (⟨_, rfl, by decide +kernel⟩) (H0.trans H.symm)
  · intro q_1
    replace H := f_f (by omega) H
    replace H := f_f (by omega) H
    replace H := f_t q_1 H
    exact h9ret (200 + 3) σ0 m0 f0 (⟨_, rfl, by decide +kernel⟩) (H0.trans H.symm)
  · intro q_1
    replace H := f_f (by omega) H
    replace H := f_f (by omega) H
    replace H := f_f (by omega) H
    replace H := f_t q_1 H
    exact h9ret (200 + 4) σ0 m0 f0 (⟨_, rfl, by decide +kernel⟩) (H0.trans H.symm)
set_option maxRecDepth 100000 in
set_option maxHeartbeats 4000000 in
theorem kF_X2_fault {l : Launch} {V : Vx} {c0 : Nat} {σ0 : Sg} {Qk : Int32 → Sg → Prop} (hc0 : kd c0 = (12, 0)) (lc0 : c0 ∈ ids (V)) (m0 : XI V σ0) (h9ret : ∀ (r : Int32) (σ' : Sg), XI V σ' → FX (fun id => False) (fun _ _ => False) σ0 σ' → (F_X2_fault c0 σ0 = (r, σ')) → Qk r σ') : K_X2_fault l V c0 σ0 Qk := by
  refine e_X2_fault (fun M hl hV hN C => ?_)
  subst hl
  subst hV
  obtain ⟨R9, H0⟩ : ∃ R9, F_X2_fault c0 σ0 = R9 := ⟨_, rfl⟩
  have gc0 : hid _ := kdF_ge hc0
  have f0 : FX (fun id => False) (fun _ _ => False) σ0 σ0 := FX_rf
  have t_1 := XI_c1 m0 (id := c0) (k := 11) (lim_F0_11 hc0)
  have H := H0
  unfold F_X2_fault at H
  refine s_X2_fault_0 C hN hc0 lc0 ?_
  exact h9ret (gi σ0 c0 11) σ0 m0 f0 (H0.trans H.symm)
set_option maxRecDepth 100000 in
set_option maxHeartbeats 4000000 in
theorem kF_X2_readsWord {l : Launch} {V : Vx} {c0 : Nat} {a1 : Int32} {σ0 : Sg} {Qk : Int32 → Sg → Prop} (hc0 : kd c0 = (12, 0)) (lc0 : c0 ∈ ids (V)) (m0 : XI V σ0) (pre0 : gr σ0 c0 9 = some 50) (h9ret : ∀ (r : Int32) (σ' : Sg), XI V σ' → FX (fun id => False) (fun id k => (id = c0 ∧ k = 11)) σ0 σ' → (0 ≤ r.toInt) → (r.toInt ≤ 1) → (F_X2_readsWord c0 a1 σ0 = (r, σ')) → Qk r σ') : K_X2_readsWord l V c0 a1 σ0 Qk := by
  refine e_X2_readsWord (fun M hl hV hN C => ?_)
  subst hl
  subst hV
  obtain ⟨R9, H0⟩ : ∃ R9, F_X2_readsWord c0 a1 σ0 = R9 := ⟨_, rfl⟩
  have gc0 : hid _ := kdF_ge hc0
  have T : ∀ n : Nat, (∀ (x2 : Nat) (x3 : Int32) (σ : Sg) (hx2 : x2 < 8), XI (mV M) σ → FX (fun id => False) (fun id k => (id = c0 ∧ k = 11)) σ0 σ → (0 ≤ x3.toInt) → (x3.toInt ≤ 6) → (LF_X2_readsWord c0 n x2 x3 σ = R9) → (7 - x3.toInt).toNat < n → PS M 7 [(0, .ref c0), (2, .ref (200 + x2)), (3, .int x3)] [] σ (0, 0)) := by
    intro n
    induction n with
    | zero => exact fun _ _ _ _ _ _ _ _ _ h8 => absurd h8 (Nat.not_lt_zero _)
    | succ n ih =>
      have ih7 := ih
      · intro x2 x3 σ hx2 mσ fσ lx3 ux3 H hmu
        replace H : LB_X2_readsWord_7 c0 (LF_X2_readsWord c0 n) x2 x3 σ = R9 := H
        unfold LB_X2_readsWord_7 at H
        have kr_c0_9 : gr σ c0 9 = some 50 := (FX_r fσ id (show ¬ ((c0 = c0 ∧ 9 = 11)) from by first | omega | (have ugc0 := un gc0; omega))).trans pre0
        have k_1 : (gi σ c0 10).toInt = (gi σ0 c0 10).toInt := congrArg Int32.toInt (FX_i fσ id (show ¬ ((c0 = c0 ∧ 10 = 11)) from by first | omega | (have ugc0 := un gc0; omega)))
        have t_2 := XI_c1 mσ (id := c0) (k := 10) (lim_F0_10 hc0)
        have t_3 := XI_c1 mσ (id := c0) (k := 11) (lim_F0_11 hc0)
        have hn := nI_slen hx2
        refine s_X2_readsWord_7 C hN hc0 lc0 hx2 ?_
        refine kF_J0_length_8abf5 hx2 mσ   (fun r2 σ1 mσ1 cσ1 (pσ1_0 : r2.toInt = (slen x2 : Int)) hσ1 => ?_)
        obtain rfl := FX_nil cσ1
        replace H := f_b hσ1 H
        refine ⟨?_, ?_⟩
        · intro q_4
          replace H := f_t q_4 H
          have w_5 := Int32.toInt_lt r2
          have w_6 := Int32.le_toInt r2
          have b_7 : r2.toInt ≤ x3.toInt := Int32.le_iff_toInt_le.mp q_4
          have z_8 : (1 : Int32).toInt = 1 := rfl
          exact h9ret (1 : Int32) σ mσ fσ (by omega) (by omega) (H0.trans H.symm)
        · intro q_4
          replace H := f_f q_4 H
          have w_9 := Int32.toInt_lt r2
          have w_10 := Int32.le_toInt r2
          have b_11 : ¬ r2.toInt ≤ x3.toInt := fun h9 => q_4 (Int32.le_iff_toInt_le.mpr h9)
          refine kF_J0_charAt_5068e hx2 mσ  (vp_in_iff.mpr ⟨by omega, by omega⟩) (fun r5 σ4 mσ4 cσ4 (pσ4_0 : 32 ≤ r5.toInt ∧ r5.toInt ≤ 127) (pσ4_1 : r5 = sby x2 x3.toNatClampNeg) hσ4 => ?_)
          obtain rfl := FX_nil cσ4
          replace H := f_b hσ4 H
          refine kF_X2_takes hc0 lc0 mσ  (by omega) (by omega) (by first | with_reducible assumption | with_reducible rfl | omega | assumption | rfl) (fun r7 σ6 mσ6 cσ6 plσ6 phσ6 hσ6 => ?_)
          replace H := f_b hσ6 H
          have fσ6 : FX (fun id => False) (fun id k => (id = c0 ∧ k = 11)) σ0 σ6 := FX_tr fσ cσ6 (fun _ h9 => h9.elim) (fun x k (h9 : (x = c0 ∧ k = 11)) => (show (False) ∨ ((x = c0 ∧ k = 11)) from Or.inr (show (x = c0 ∧ k = 11) from h9)))
          have k_12 : (gi σ6 c0 10).toInt = (gi σ c0 10).toInt := congrArg Int32.toInt (FX_i cσ6 id (show ¬ ((c0 = c0 ∧ 10 = 11)) from by first | omega | (have ugc0 := un gc0; omega)))
          have t_13 := XI_c1 mσ6 (id := c0) (k := 11) (lim_F0_11 hc0)
          have kr_14 : gr σ6 c0 9 = some 50 := (FX_r cσ6 id (show ¬ ((c0 = c0 ∧ 9 = 11)) from by first | omega | (have ugc0 := un gc0; omega))).trans kr_c0_9
          refine ⟨?_, ?_⟩
          · intro q_15
            replace H := f_f q_15 H
            have b_16 : ¬ r7.toInt = 0 := fun h9 => q_15 (Int32.toInt_inj.mp h9)
            intro v9 ev9
            replace H := f_l ev9 H
            have t_17 : (x3 + (1 : Int32)).toInt = x3.toInt + 1 := i_add (x := x3) (y := (1 : Int32)) (by show (_ : Int) ≤ x3.toInt + 1; omega) (by show x3.toInt + 1 ≤ (_ : Int); omega)
            have t_18 : v9.toInt = (x3 + (1 : Int32)).toInt := congrArg Int32.toInt ev9
            exact ih7 x2 v9 σ6 hx2 mσ6 fσ6 (by omega) (by omega) H (by omega)
          · intro q_15
            replace H := f_t q_15 H
            have b_19 : r7.toInt = 0 := congrArg Int32.toInt q_15
            have z_20 : (0 : Int32).toInt = 0 := rfl
            exact h9ret (0 : Int32) σ6 mσ6 fσ6 (by omega) (by omega) (H0.trans H.symm)
  have U7 := T 9
  have f0 : FX (fun id => False) (fun id k => (id = c0 ∧ k = 11)) σ0 σ0 := FX_rf
  have t_21 := XI_c1 m0 (id := c0) (k := 10) (lim_F0_10 hc0)
  have t_22 := XI_c1 m0 (id := c0) (k := 11) (lim_F0_11 hc0)
  have H := H0
  unfold F_X2_readsWord at H
  refine s_X2_readsWord_0 C hN hc0 lc0 ?_
  refine kF_X2_wordOf m0 (fun b9 σ1 m9 c9 p9 h9F => ?_)
  obtain rfl := FX_nil c9
  obtain ⟨a2, ea9, ha2⟩ := p9
  refine ⟨a2, ea9, ha2, ?_⟩
  rw [ea9] at h9F
  replace H := f_b h9F H
  rw [show 200 + a2 - 200 = a2 from Nat.add_sub_cancel_left _ _] at H
  have hna2 := nI_slen ha2
  have z_23 : (0 : Int32).toInt = 0 := rfl
  exact U7 a2 (0 : Int32) σ0 ha2 m0 f0 (by omega) (by omega) H (by omega)
set_option maxRecDepth 100000 in
set_option maxHeartbeats 4000000 in
theorem kF_X2_readsPart_r4 {l : Launch} {V : Vx} {c0 : Nat} {a1 : Int32} {σ0 : Sg} {Qk : Int32 → Sg → Prop} (hc0 : kd c0 = (12, 0)) (lc0 : c0 ∈ ids (V)) (m0 : XI V σ0) (l_a1 : 4 ≤ a1.toInt) (u_a1 : a1.toInt ≤ 4) (pre0 : gr σ0 c0 9 = some 50) (h9ret : ∀ (r : Int32) (σ' : Sg), XI V σ' → FX (fun id => id = c0 + 1) (fun id k => (id = c0 ∧ k = 4) ∨ (id = c0 ∧ k = 11)) σ0 σ' → (0 ≤ r.toInt) → (r.toInt ≤ 1) → (F_X2_readsPart_r4 c0 a1 σ0 = (r, σ')) → Qk r σ') : K_X2_readsPart_r4 l V c0 a1 σ0 Qk := by
  refine e_X2_readsPart_r4 (fun M hl hV hN C => ?_)
  subst hl
  subst hV
  obtain ⟨R9, H0⟩ : ∃ R9, F_X2_readsPart_r4 c0 a1 σ0 = R9 := ⟨_, rfl⟩
  have gc0 : hid _ := kdF_ge hc0
  have T : ∀ n : Nat, (∀ (x1 : Int32) (σ : Sg), XI (mV M) σ → FX (fun id => id = c0 + 1) (fun id k => (id = c0 ∧ k = 4) ∨ (id = c0 ∧ k = 11)) σ0 σ → (4 ≤ x1.toInt) → (x1.toInt ≤ 4) → (LF_X2_readsPart_r4 c0 n x1 σ = R9) → 1 < n → PS M 33 [(0, .ref c0), (1, .int x1)] [] σ (0, 0)) := by
    intro n
    induction n with
    | zero => exact fun _ _ _ _ _ _ _ h8 => absurd h8 (Nat.not_lt_zero _)
    | succ n ih =>
      have ih33 := ih
      · intro x1 σ mσ fσ lx1 ux1 H hmu
        replace H : LB_X2_readsPart_r4_33 c0 (LF_X2_readsPart_r4 c0 n) x1 σ = R9 := H
        unfold LB_X2_readsPart_r4_33 at H
        have kr_c0_9 : gr σ c0 9 = some 50 := (FX_r fσ (show ¬ (c0 = c0 + 1) from by first | omega | (have ugc0 := un gc0; omega)) (show ¬ ((c0 = c0 ∧ 9 = 4) ∨ (c0 = c0 ∧ 9 = 11)) from by first | omega | (have ugc0 := un gc0; omega))).trans pre0
        have k_1 : (gi σ c0 10).toInt = (gi σ0 c0 10).toInt := congrArg Int32.toInt (FX_i fσ (show ¬ (c0 = c0 + 1) from by first | omega | (have ugc0 := un gc0; omega)) (show ¬ ((c0 = c0 ∧ 10 = 4) ∨ (c0 = c0 ∧ 10 = 11)) from by first | omega | (have ugc0 := un gc0; omega)))
        have t_2 := XI_c1 mσ (id := c0) (k := 10) (lim_F0_10 hc0)
        have t_3 := XI_c1 mσ (id := c0) (k := 11) (lim_F0_11 hc0)
        refine s_X2_readsPart_r4_33 C hN hc0 lc0 ?_
        refine ⟨?_, ?_⟩
        · intro q_4
          replace H := f_t q_4 H
          have b_5 : (4 : Int) ≤ x1.toInt := Int32.le_iff_toInt_le.mp q_4
          refine kF_X2_readsTest hc0 lc0 mσ  (by first | with_reducible assumption | with_reducible rfl | omega | assumption | rfl) (fun r3 σ2 mσ2 cσ2 plσ2 phσ2 hσ2 => ?_)
          replace H := f_b hσ2 H
          have fσ2 : FX (fun id => id = c0 + 1) (fun id k => (id = c0 ∧ k = 4) ∨ (id = c0 ∧ k = 11)) σ0 σ2 := FX_tr fσ cσ2 (fun x (h9 : x = c0 + 1) => (show x = c0 + 1 from h9)) (fun x k (h9 : (x = c0 ∧ k = 4) ∨ (x = c0 ∧ k = 11)) => (show (x = c0 + 1) ∨ ((x = c0 ∧ k = 4) ∨ (x = c0 ∧ k = 11)) from h9.elim (fun e9 => Or.inr (show (x = c0 ∧ k = 4) ∨ (x = c0 ∧ k = 11) from Or.inl (e9))) (fun h9 => Or.inr (show (x = c0 ∧ k = 4) ∨ (x = c0 ∧ k = 11) from Or.inr (h9)))))
          have k_6 : (gi σ2 c0 10).toInt = (gi σ c0 10).toInt := congrArg Int32.toInt (FX_i cσ2 (show ¬ (c0 = c0 + 1) from by first | omega | (have ugc0 := un gc0; omega)) (show ¬ ((c0 = c0 ∧ 10 = 4) ∨ (c0 = c0 ∧ 10 = 11)) from by first | omega | (have ugc0 := un gc0; omega)))
          have t_7 := XI_c1 mσ2 (id := c0) (k := 11) (lim_F0_11 hc0)
          have kr_8 : gr σ2 c0 9 = some 50 := (FX_r cσ2 (show ¬ (c0 = c0 + 1) from by first | omega | (have ugc0 := un gc0; omega)) (show ¬ ((c0 = c0 ∧ 9 = 4) ∨ (c0 = c0 ∧ 9 = 11)) from by first | omega | (have ugc0 := un gc0; omega))).trans kr_c0_9
          refine ⟨i_bool (by omega) (by omega), ?_⟩
          exact h9ret r3 σ2 mσ2 fσ2 (by omega) (by omega) (H0.trans H.symm)
        · intro q_4
          replace H := f_f q_4 H
          have b_9 : ¬ (4 : Int) ≤ x1.toInt := fun h9 => q_4 (Int32.le_iff_toInt_le.mpr h9)
          have z_10 : (40 : Int32).toInt = 40 := rfl
          refine kF_X2_takes hc0 lc0 mσ  (by omega) (by omega) (by first | with_reducible assumption | with_reducible rfl | omega | assumption | rfl) (fun r5 σ4 mσ4 cσ4 plσ4 phσ4 hσ4 => ?_)
          replace H := f_b hσ4 H
          have fσ4 : FX (fun id => id = c0 + 1) (fun id k => (id = c0 ∧ k = 4) ∨ (id = c0 ∧ k = 11)) σ0 σ4 := FX_tr fσ cσ4 (fun _ h9 => h9.elim) (fun x k (h9 : (x = c0 ∧ k = 11)) => (show (x = c0 + 1) ∨ ((x = c0 ∧ k = 4) ∨ (x = c0 ∧ k = 11)) from Or.inr (show (x = c0 ∧ k = 4) ∨ (x = c0 ∧ k = 11) from Or.inr (h9))))
          have k_11 : (gi σ4 c0 10).toInt = (gi σ c0 10).toInt := congrArg Int32.toInt (FX_i cσ4 id (show ¬ ((c0 = c0 ∧ 10 = 11)) from by first | omega | (have ugc0 := un gc0; omega)))
          have t_12 := XI_c1 mσ4 (id := c0) (k := 11) (lim_F0_11 hc0)
          have kr_13 : gr σ4 c0 9 = some 50 := (FX_r cσ4 id (show ¬ ((c0 = c0 ∧ 9 = 11)) from by first | omega | (have ugc0 := un gc0; omega))).trans kr_c0_9
          refine ⟨?_, ?_⟩
          · intro q_14
            replace H := f_t q_14 H
            have b_15 : r5.toInt = 0 := congrArg Int32.toInt q_14
            refine kF_X2_readsTest hc0 lc0 mσ4  (by first | with_reducible assumption | with_reducible rfl | omega | assumption | rfl) (fun r8 σ7 mσ7 cσ7 plσ7 phσ7 hσ7 => ?_)
            replace H := f_b hσ7 H
            have fσ7 : FX (fun id => id = c0 + 1) (fun id k => (id = c0 ∧ k = 4) ∨ (id = c0 ∧ k = 11)) σ0 σ7 := FX_tr fσ4 cσ7 (fun x (h9 : x = c0 + 1) => (show x = c0 + 1 from h9)) (fun x k (h9 : (x = c0 ∧ k = 4) ∨ (x = c0 ∧ k = 11)) => (show (x = c0 + 1) ∨ ((x = c0 ∧ k = 4) ∨ (x = c0 ∧ k = 11)) from h9.elim (fun e9 => Or.inr (show (x = c0 ∧ k = 4) ∨ (x = c0 ∧ k = 11) from Or.inl (e9))) (fun h9 => Or.inr (show (x = c0 ∧ k = 4) ∨ (x = c0 ∧ k = 11) from Or.inr (h9)))))
            have k_16 : (gi σ7 c0 10).toInt = (gi σ4 c0 10).toInt := congrArg Int32.toInt (FX_i cσ7 (show ¬ (c0 = c0 + 1) from by first | omega | (have ugc0 := un gc0; omega)) (show ¬ ((c0 = c0 ∧ 10 = 4) ∨ (c0 = c0 ∧ 10 = 11)) from by first | omega | (have ugc0 := un gc0; omega)))
            have t_17 := XI_c1 mσ7 (id := c0) (k := 11) (lim_F0_11 hc0)
            have kr_18 : gr σ7 c0 9 = some 50 := (FX_r cσ7 (show ¬ (c0 = c0 + 1) from by first | omega | (have ugc0 := un gc0; omega)) (show ¬ ((c0 = c0 ∧ 9 = 4) ∨ (c0 = c0 ∧ 9 = 11)) from by first | omega | (have ugc0 := un gc0; omega))).trans kr_13
            refine ⟨i_bool (by omega) (by omega), ?_⟩
            exact h9ret r8 σ7 mσ7 fσ7 (by omega) (by omega) (H0.trans H.symm)
          · intro q_14
            replace H := f_f q_14 H
            have b_19 : ¬ r5.toInt = 0 := fun h9 => q_14 (Int32.toInt_inj.mp h9)
            exfalso; omega
  have U33 := T 9
  have f0 : FX (fun id => id = c0 + 1) (fun id k => (id = c0 ∧ k = 4) ∨ (id = c0 ∧ k = 11)) σ0 σ0 := FX_rf
  have t_20 := XI_c1 m0 (id := c0) (k := 10) (lim_F0_10 hc0)
  have t_21 := XI_c1 m0 (id := c0) (k := 11) (lim_F0_11 hc0)
  have H := H0
  unfold F_X2_readsPart_r4 at H
  refine s_X2_readsPart_r4_0 C hN hc0 lc0 ?_
  refine ⟨?_, ?_⟩
  · intro q_22
    replace H := f_t q_22 H
    have b_23 : (4 : Int) ≤ a1.toInt := Int32.le_iff_toInt_le.mp q_22
    exact U33 a1 σ0 m0 f0 (by omega) (by omega) H (by omega)
  · intro q_22
    replace H := f_f q_22 H
    have b_24 : ¬ (4 : Int) ≤ a1.toInt := fun h9 => q_22 (Int32.le_iff_toInt_le.mpr h9)
    have z_25 : (33 : Int32).toInt = 33 := rfl
    refine kF_X2_takes hc0 lc0 m0  (by omega) (by omega) (by first | with_reducible assumption | with_reducible rfl | omega | assumption | rfl) (fun r3 σ2 mσ2 cσ2 plσ2 phσ2 hσ2 => ?_)
    replace H := f_b hσ2 H
    have fσ2 : FX (fun id => id = c0 + 1) (fun id k => (id = c0 ∧ k = 4) ∨ (id = c0 ∧ k = 11)) σ0 σ2 := FX_tr f0 cσ2 (fun _ h9 => h9.elim) (fun x k (h9 : (x = c0 ∧ k = 11)) => (show (x = c0 + 1) ∨ ((x = c0 ∧ k = 4) ∨ (x = c0 ∧ k = 11)) from Or.inr (show (x = c0 ∧ k = 4) ∨ (x = c0 ∧ k = 11) from Or.inr (h9))))
    have k_26 : (gi σ2 c0 10).toInt = (gi σ0 c0 10).toInt := congrArg Int32.toInt (FX_i cσ2 id (show ¬ ((c0 = c0 ∧ 10 = 11)) from by first | omega | (have ugc0 := un gc0; omega)))
    have t_27 := XI_c1 mσ2 (id := c0) (k := 11) (lim_F0_11 hc0)
    have kr_28 : gr σ2 c0 9 = some 50 := (FX_r cσ2 id (show ¬ ((c0 = c0 ∧ 9 = 11)) from by first | omega | (have ugc0 := un gc0; omega))).trans pre0
    refine ⟨?_, ?_⟩
    · intro q_29
      replace H := f_t q_29 H
      have b_30 : r3.toInt = 0 := congrArg Int32.toInt q_29
      exact U33 a1 σ2 mσ2 fσ2 (by omega) (by omega) H (by omega)
    · intro q_29
      replace H := f_f q_29 H
      have b_31 : ¬ r3.toInt = 0 := fun h9 => q_29 (Int32.toInt_inj.mp h9)
      exfalso; omega
set_option maxRecDepth 100000 in
set_option maxHeartbeats 4000000 in
theorem kF_X2_readsBoth_r4 {l : Launch} {V : Vx} {c0 : Nat} {a1 : Int32} {σ0 : Sg} {Qk : Int32 → Sg → Prop} (hc0 : kd c0 = (12, 0)) (lc0 : c0 ∈ ids (V)) (m0 : XI V σ0) (l_a1 : 4 ≤ a1.toInt) (u_a1 : a1.toInt ≤ 4) (pre0 : gr σ0 c0 9 = some 50) (h9ret : ∀ (r : Int32) (σ' : Sg), XI V σ' → FX (fun id => id = c0 + 1) (fun id k => (id = c0 ∧ k = 4) ∨ (id = c0 ∧ k = 11)) σ0 σ' → (0 ≤ r.toInt) → (r.toInt ≤ 1) → (F_X2_readsBoth_r4 c0 a1 σ0 = (r, σ')) → Qk r σ') : K_X2_readsBoth_r4 l V c0 a1 σ0 Qk := by
  refine e_X2_readsBoth_r4 (fun M hl hV hN C => ?_)
  subst hl
  subst hV
  obtain ⟨R9, H0⟩ : ∃ R9, F_X2_readsBoth_r4 c0 a1 σ0 = R9 := ⟨_, rfl⟩
  have gc0 : hid _ := kdF_ge hc0
  have T : ∀ n : Nat, (∀ (x1 : Int32) (x2 : Int32) (σ : Sg), XI (mV M) σ → FX (fun id => id = c0 + 1) (fun id k => (id = c0 ∧ k = 4) ∨ (id = c0 ∧ k = 11)) σ0 σ → (4 ≤ x1.toInt) → (x1.toInt ≤ 4) → (0 ≤ x2.toInt) → (x2.toInt ≤ 100) → (LF_X2_readsBoth_r4 c0 n x1 x2 σ = R9) → (101 - x2.toInt).toNat < n → PS M 12 [(0, .ref c0), (1, .int x1), (2, .int x2)] [] σ (0, 0)) := by
    intro n
    induction n with
    | zero => exact fun _ _ _ _ _ _ _ _ _ _ h8 => absurd h8 (Nat.not_lt_zero _)
    | succ n ih =>
      have ih12 := ih
      · intro x1 x2 σ mσ fσ lx1 ux1 lx2 ux2 H hmu
        replace H : LB_X2_readsBoth_r4_12 c0 (LF_X2_readsBoth_r4 c0 n) x1 x2 σ = R9 := H
        unfold LB_X2_readsBoth_r4_12 at H
        have kr_c0_9 : gr σ c0 9 = some 50 := (FX_r fσ (show ¬ (c0 = c0 + 1) from by first | omega | (have ugc0 := un gc0; omega)) (show ¬ ((c0 = c0 ∧ 9 = 4) ∨ (c0 = c0 ∧ 9 = 11)) from by first | omega | (have ugc0 := un gc0; omega))).trans pre0
        have k_1 : (gi σ c0 10).toInt = (gi σ0 c0 10).toInt := congrArg Int32.toInt (FX_i fσ (show ¬ (c0 = c0 + 1) from by first | omega | (have ugc0 := un gc0; omega)) (show ¬ ((c0 = c0 ∧ 10 = 4) ∨ (c0 = c0 ∧ 10 = 11)) from by first | omega | (have ugc0 := un gc0; omega)))
        have t_2 := XI_c1 mσ (id := c0) (k := 10) (lim_F0_10 hc0)
        have t_3 := XI_c1 mσ (id := c0) (k := 11) (lim_F0_11 hc0)
        refine s_X2_readsBoth_r4_12 C hN hc0 lc0 ?_
        refine ⟨?_, ?_⟩
        · intro q_4
          replace H := f_t q_4 H
          have b_5 : (100 : Int) ≤ x2.toInt := Int32.le_iff_toInt_le.mp q_4
          have z_6 : (1 : Int32).toInt = 1 := rfl
          exact h9ret (1 : Int32) σ mσ fσ (by omega) (by omega) (H0.trans H.symm)
        · intro q_4
          replace H := f_f q_4 H
          have b_7 : ¬ (100 : Int) ≤ x2.toInt := fun h9 => q_4 (Int32.le_iff_toInt_le.mpr h9)
          have z_8 : (38 : Int32).toInt = 38 := rfl
          refine kF_X2_takes hc0 lc0 mσ  (by omega) (by omega) (by first | with_reducible assumption | with_reducible rfl | omega | assumption | rfl) (fun r3 σ2 mσ2 cσ2 plσ2 phσ2 hσ2 => ?_)
          replace H := f_b hσ2 H
          have fσ2 : FX (fun id => id = c0 + 1) (fun id k => (id = c0 ∧ k = 4) ∨ (id = c0 ∧ k = 11)) σ0 σ2 := FX_tr fσ cσ2 (fun _ h9 => h9.elim) (fun x k (h9 : (x = c0 ∧ k = 11)) => (show (x = c0 + 1) ∨ ((x = c0 ∧ k = 4) ∨ (x = c0 ∧ k = 11)) from Or.inr (show (x = c0 ∧ k = 4) ∨ (x = c0 ∧ k = 11) from Or.inr (h9))))
          have k_9 : (gi σ2 c0 10).toInt = (gi σ c0 10).toInt := congrArg Int32.toInt (FX_i cσ2 id (show ¬ ((c0 = c0 ∧ 10 = 11)) from by first | omega | (have ugc0 := un gc0; omega)))
          have t_10 := XI_c1 mσ2 (id := c0) (k := 11) (lim_F0_11 hc0)
          have kr_11 : gr σ2 c0 9 = some 50 := (FX_r cσ2 id (show ¬ ((c0 = c0 ∧ 9 = 11)) from by first | omega | (have ugc0 := un gc0; omega))).trans kr_c0_9
          refine ⟨?_, ?_⟩
          · intro q_12
            replace H := f_t q_12 H
            have b_13 : r3.toInt = 0 := congrArg Int32.toInt q_12
            have z_14 : (1 : Int32).toInt = 1 := rfl
            exact h9ret (1 : Int32) σ2 mσ2 fσ2 (by omega) (by omega) (H0.trans H.symm)
          · intro q_12
            replace H := f_f q_12 H
            have b_15 : ¬ r3.toInt = 0 := fun h9 => q_12 (Int32.toInt_inj.mp h9)
            refine kF_X2_readsPart_r4 hc0 lc0 mσ2  (by omega) (by omega) (by first | with_reducible assumption | with_reducible rfl | omega | assumption | rfl) (fun r6 σ5 mσ5 cσ5 plσ5 phσ5 hσ5 => ?_)
            replace H := f_b hσ5 H
            have fσ5 : FX (fun id => id = c0 + 1) (fun id k => (id = c0 ∧ k = 4) ∨ (id = c0 ∧ k = 11)) σ0 σ5 := FX_tr fσ2 cσ5 (fun x (h9 : x = c0 + 1) => (show x = c0 + 1 from h9)) (fun x k (h9 : (x = c0 ∧ k = 4) ∨ (x = c0 ∧ k = 11)) => (show (x = c0 + 1) ∨ ((x = c0 ∧ k = 4) ∨ (x = c0 ∧ k = 11)) from h9.elim (fun e9 => Or.inr (show (x = c0 ∧ k = 4) ∨ (x = c0 ∧ k = 11) from Or.inl (e9))) (fun h9 => Or.inr (show (x = c0 ∧ k = 4) ∨ (x = c0 ∧ k = 11) from Or.inr (h9)))))
            have k_16 : (gi σ5 c0 10).toInt = (gi σ2 c0 10).toInt := congrArg Int32.toInt (FX_i cσ5 (show ¬ (c0 = c0 + 1) from by first | omega | (have ugc0 := un gc0; omega)) (show ¬ ((c0 = c0 ∧ 10 = 4) ∨ (c0 = c0 ∧ 10 = 11)) from by first | omega | (have ugc0 := un gc0; omega)))
            have t_17 := XI_c1 mσ5 (id := c0) (k := 11) (lim_F0_11 hc0)
            have kr_18 : gr σ5 c0 9 = some 50 := (FX_r cσ5 (show ¬ (c0 = c0 + 1) from by first | omega | (have ugc0 := un gc0; omega)) (show ¬ ((c0 = c0 ∧ 9 = 4) ∨ (c0 = c0 ∧ 9 = 11)) from by first | omega | (have ugc0 := un gc0; omega))).trans kr_11
            refine ⟨?_, ?_⟩
            · intro q_19
              replace H := f_f q_19 H
              have b_20 : ¬ r6.toInt = 0 := fun h9 => q_19 (Int32.toInt_inj.mp h9)
              have z_21 : (-2 : Int32).toInt = -2 := rfl
              refine kF_X2_writes hc0 lc0 mσ5  (by omega) (by omega) (fun σ8 mσ8 cσ8 hσ8 => ?_)
              replace H := f_v hσ8 H
              have fσ8 : FX (fun id => id = c0 + 1) (fun id k => (id = c0 ∧ k = 4) ∨ (id = c0 ∧ k = 11)) σ0 σ8 := FX_tr fσ5 cσ8 (fun x (h9 : x = c0 + 1) => (show x = c0 + 1 from h9)) (fun x k (h9 : (x = c0 ∧ k = 4)) => (show (x = c0 + 1) ∨ ((x = c0 ∧ k = 4) ∨ (x = c0 ∧ k = 11)) from Or.inr (show (x = c0 ∧ k = 4) ∨ (x = c0 ∧ k = 11) from Or.inl (h9))))
              have k_22 : (gi σ8 c0 10).toInt = (gi σ5 c0 10).toInt := congrArg Int32.toInt (FX_i cσ8 (show ¬ (c0 = c0 + 1) from by first | omega | (have ugc0 := un gc0; omega)) (show ¬ ((c0 = c0 ∧ 10 = 4)) from by first | omega | (have ugc0 := un gc0; omega)))
              have k_23 : (gi σ8 c0 11).toInt = (gi σ5 c0 11).toInt := congrArg Int32.toInt (FX_i cσ8 (show ¬ (c0 = c0 + 1) from by first | omega | (have ugc0 := un gc0; omega)) (show ¬ ((c0 = c0 ∧ 11 = 4)) from by first | omega | (have ugc0 := un gc0; omega)))
              have kr_24 : gr σ8 c0 9 = some 50 := (FX_r cσ8 (show ¬ (c0 = c0 + 1) from by first | omega | (have ugc0 := un gc0; omega)) (show ¬ ((c0 = c0 ∧ 9 = 4)) from by first | omega | (have ugc0 := un gc0; omega))).trans kr_18
              intro v9 ev9
              replace H := f_l ev9 H
              have t_25 : (x2 + (1 : Int32)).toInt = x2.toInt + 1 := i_add (x := x2) (y := (1 : Int32)) (by show (_ : Int) ≤ x2.toInt + 1; omega) (by show x2.toInt + 1 ≤ (_ : Int); omega)
              have t_26 : v9.toInt = (x2 + (1 : Int32)).toInt := congrArg Int32.toInt ev9
              exact ih12 x1 v9 σ8 mσ8 fσ8 (by omega) (by omega) (by omega) (by omega) H (by omega)
            · intro q_19
              replace H := f_t q_19 H
              have b_27 : r6.toInt = 0 := congrArg Int32.toInt q_19
              have z_28 : (0 : Int32).toInt = 0 := rfl
              exact h9ret (0 : Int32) σ5 mσ5 fσ5 (by omega) (by omega) (H0.trans H.symm)
  have U12 := T 200
  have f0 : FX (fun id => id = c0 + 1) (fun id k => (id = c0 ∧ k = 4) ∨ (id = c0 ∧ k = 11)) σ0 σ0 := FX_rf
  have t_29 := XI_c1 m0 (id := c0) (k := 10) (lim_F0_10 hc0)
  have t_30 := XI_c1 m0 (id := c0) (k := 11) (lim_F0_11 hc0)
  have H := H0
  unfold F_X2_readsBoth_r4 at H
  refine s_X2_readsBoth_r4_0 C hN hc0 lc0 ?_
  refine kF_X2_readsPart_r4 hc0 lc0 m0  (by omega) (by omega) (by first | with_reducible assumption | with_reducible rfl | omega | assumption | rfl) (fun r2 σ1 mσ1 cσ1 plσ1 phσ1 hσ1 => ?_)
  replace H := f_b hσ1 H
  have fσ1 : FX (fun id => id = c0 + 1) (fun id k => (id = c0 ∧ k = 4) ∨ (id = c0 ∧ k = 11)) σ0 σ1 := FX_tr f0 cσ1 (fun x (h9 : x = c0 + 1) => (show x = c0 + 1 from h9)) (fun x k (h9 : (x = c0 ∧ k = 4) ∨ (x = c0 ∧ k = 11)) => (show (x = c0 + 1) ∨ ((x = c0 ∧ k = 4) ∨ (x = c0 ∧ k = 11)) from h9.elim (fun e9 => Or.inr (show (x = c0 ∧ k = 4) ∨ (x = c0 ∧ k = 11) from Or.inl (e9))) (fun h9 => Or.inr (show (x = c0 ∧ k = 4) ∨ (x = c0 ∧ k = 11) from Or.inr (h9)))))
  have k_31 : (gi σ1 c0 10).toInt = (gi σ0 c0 10).toInt := congrArg Int32.toInt (FX_i cσ1 (show ¬ (c0 = c0 + 1) from by first | omega | (have ugc0 := un gc0; omega)) (show ¬ ((c0 = c0 ∧ 10 = 4) ∨ (c0 = c0 ∧ 10 = 11)) from by first | omega | (have ugc0 := un gc0; omega)))
  have t_32 := XI_c1 mσ1 (id := c0) (k := 11) (lim_F0_11 hc0)
  have kr_33 : gr σ1 c0 9 = some 50 := (FX_r cσ1 (show ¬ (c0 = c0 + 1) from by first | omega | (have ugc0 := un gc0; omega)) (show ¬ ((c0 = c0 ∧ 9 = 4) ∨ (c0 = c0 ∧ 9 = 11)) from by first | omega | (have ugc0 := un gc0; omega))).trans pre0
  refine ⟨?_, ?_⟩
  · intro q_34
    replace H := f_f q_34 H
    have b_35 : ¬ r2.toInt = 0 := fun h9 => q_34 (Int32.toInt_inj.mp h9)
    have z_36 : (0 : Int32).toInt = 0 := rfl
    exact U12 a1 (0 : Int32) σ1 mσ1 fσ1 (by omega) (by omega) (by omega) (by omega) H (by omega)
  · intro q_34
    replace H := f_t q_34 H
    have b_37 : r2.toInt = 0 := congrArg Int32.toInt q_34
    have z_38 : (0 : Int32).toInt = 0 := rfl
    exact h9ret (0 : Int32) σ1 mσ1 fσ1 (by omega) (by omega) (H0.trans H.symm)
set_option maxRecDepth 100000 in
set_option maxHeartbeats 4000000 in
theorem kF_X2_readsEither_r4 {l : Launch} {V : Vx} {c0 : Nat} {a1 : Int32} {σ0 : Sg} {Qk : Int32 → Sg → Prop} (hc0 : kd c0 = (12, 0)) (lc0 : c0 ∈ ids (V)) (m0 : XI V σ0) (l_a1 : 4 ≤ a1.toInt) (u_a1 : a1.toInt ≤ 4) (pre0 : gr σ0 c0 9 = some 50) (h9ret : ∀ (r : Int32) (σ' : Sg), XI V σ' → FX (fun id => id = c0 + 1) (fun id k => (id = c0 ∧ k = 4) ∨ (id = c0 ∧ k = 11)) σ0 σ' → (0 ≤ r.toInt) → (r.toInt ≤ 1) → (F_X2_readsEither_r4 c0 a1 σ0 = (r, σ')) → Qk r σ') : K_X2_readsEither_r4 l V c0 a1 σ0 Qk := by
  refine e_X2_readsEither_r4 (fun M hl hV hN C => ?_)
  subst hl
  subst hV
  obtain ⟨R9, H0⟩ : ∃ R9, F_X2_readsEither_r4 c0 a1 σ0 = R9 := ⟨_, rfl⟩
  have gc0 : hid _ := kdF_ge hc0
  have T : ∀ n : Nat, (∀ (x1 : Int32) (x2 : Int32) (σ : Sg), XI (mV M) σ → FX (fun id => id = c0 + 1) (fun id k => (id = c0 ∧ k = 4) ∨ (id = c0 ∧ k = 11)) σ0 σ → (4 ≤ x1.toInt) → (x1.toInt ≤ 4) → (0 ≤ x2.toInt) → (x2.toInt ≤ 100) → (LF_X2_readsEither_r4 c0 n x1 x2 σ = R9) → (101 - x2.toInt).toNat < n → PS M 12 [(0, .ref c0), (1, .int x1), (2, .int x2)] [] σ (0, 0)) := by
    intro n
    induction n with
    | zero => exact fun _ _ _ _ _ _ _ _ _ _ h8 => absurd h8 (Nat.not_lt_zero _)
    | succ n ih =>
      have ih12 := ih
      · intro x1 x2 σ mσ fσ lx1 ux1 lx2 ux2 H hmu
        replace H : LB_X2_readsEither_r4_12 c0 (LF_X2_readsEither_r4 c0 n) x1 x2 σ = R9 := H
        unfold LB_X2_readsEither_r4_12 at H
        have kr_c0_9 : gr σ c0 9 = some 50 := (FX_r fσ (show ¬ (c0 = c0 + 1) from by first | omega | (have ugc0 := un gc0; omega)) (show ¬ ((c0 = c0 ∧ 9 = 4) ∨ (c0 = c0 ∧ 9 = 11)) from by first | omega | (have ugc0 := un gc0; omega))).trans pre0
        have k_1 : (gi σ c0 10).toInt = (gi σ0 c0 10).toInt := congrArg Int32.toInt (FX_i fσ (show ¬ (c0 = c0 + 1) from by first | omega | (have ugc0 := un gc0; omega)) (show ¬ ((c0 = c0 ∧ 10 = 4) ∨ (c0 = c0 ∧ 10 = 11)) from by first | omega | (have ugc0 := un gc0; omega)))
        have t_2 := XI_c1 mσ (id := c0) (k := 10) (lim_F0_10 hc0)
        have t_3 := XI_c1 mσ (id := c0) (k := 11) (lim_F0_11 hc0)
        refine s_X2_readsEither_r4_12 C hN hc0 lc0 ?_
        refine ⟨?_, ?_⟩
        · intro q_4
          replace H := f_t q_4 H
          have b_5 : (100 : Int) ≤ x2.toInt := Int32.le_iff_toInt_le.mp q_4
          have z_6 : (1 : Int32).toInt = 1 := rfl
          exact h9ret (1 : Int32) σ mσ fσ (by omega) (by omega) (H0.trans H.symm)
        · intro q_4
          replace H := f_f q_4 H
          have b_7 : ¬ (100 : Int) ≤ x2.toInt := fun h9 => q_4 (Int32.le_iff_toInt_le.mpr h9)
          have z_8 : (124 : Int32).toInt = 124 := rfl
          refine kF_X2_takes hc0 lc0 mσ  (by omega) (by omega) (by first | with_reducible assumption | with_reducible rfl | omega | assumption | rfl) (fun r3 σ2 mσ2 cσ2 plσ2 phσ2 hσ2 => ?_)
          replace H := f_b hσ2 H
          have fσ2 : FX (fun id => id = c0 + 1) (fun id k => (id = c0 ∧ k = 4) ∨ (id = c0 ∧ k = 11)) σ0 σ2 := FX_tr fσ cσ2 (fun _ h9 => h9.elim) (fun x k (h9 : (x = c0 ∧ k = 11)) => (show (x = c0 + 1) ∨ ((x = c0 ∧ k = 4) ∨ (x = c0 ∧ k = 11)) from Or.inr (show (x = c0 ∧ k = 4) ∨ (x = c0 ∧ k = 11) from Or.inr (h9))))
          have k_9 : (gi σ2 c0 10).toInt = (gi σ c0 10).toInt := congrArg Int32.toInt (FX_i cσ2 id (show ¬ ((c0 = c0 ∧ 10 = 11)) from by first | omega | (have ugc0 := un gc0; omega)))
          have t_10 := XI_c1 mσ2 (id := c0) (k := 11) (lim_F0_11 hc0)
          have kr_11 : gr σ2 c0 9 = some 50 := (FX_r cσ2 id (show ¬ ((c0 = c0 ∧ 9 = 11)) from by first | omega | (have ugc0 := un gc0; omega))).trans kr_c0_9
          refine ⟨?_, ?_⟩
          · intro q_12
            replace H := f_t q_12 H
            have b_13 : r3.toInt = 0 := congrArg Int32.toInt q_12
            have z_14 : (1 : Int32).toInt = 1 := rfl
            exact h9ret (1 : Int32) σ2 mσ2 fσ2 (by omega) (by omega) (H0.trans H.symm)
          · intro q_12
            replace H := f_f q_12 H
            have b_15 : ¬ r3.toInt = 0 := fun h9 => q_12 (Int32.toInt_inj.mp h9)
            refine kF_X2_readsBoth_r4 hc0 lc0 mσ2  (by omega) (by omega) (by first | with_reducible assumption | with_reducible rfl | omega | assumption | rfl) (fun r6 σ5 mσ5 cσ5 plσ5 phσ5 hσ5 => ?_)
            replace H := f_b hσ5 H
            have fσ5 : FX (fun id => id = c0 + 1) (fun id k => (id = c0 ∧ k = 4) ∨ (id = c0 ∧ k = 11)) σ0 σ5 := FX_tr fσ2 cσ5 (fun x (h9 : x = c0 + 1) => (show x = c0 + 1 from h9)) (fun x k (h9 : (x = c0 ∧ k = 4) ∨ (x = c0 ∧ k = 11)) => (show (x = c0 + 1) ∨ ((x = c0 ∧ k = 4) ∨ (x = c0 ∧ k = 11)) from h9.elim (fun e9 => Or.inr (show (x = c0 ∧ k = 4) ∨ (x = c0 ∧ k = 11) from Or.inl (e9))) (fun h9 => Or.inr (show (x = c0 ∧ k = 4) ∨ (x = c0 ∧ k = 11) from Or.inr (h9)))))
            have k_16 : (gi σ5 c0 10).toInt = (gi σ2 c0 10).toInt := congrArg Int32.toInt (FX_i cσ5 (show ¬ (c0 = c0 + 1) from by first | omega | (have ugc0 := un gc0; omega)) (show ¬ ((c0 = c0 ∧ 10 = 4) ∨ (c0 = c0 ∧ 10 = 11)) from by first | omega | (have ugc0 := un gc0; omega)))
            have t_17 := XI_c1 mσ5 (id := c0) (k := 11) (lim_F0_11 hc0)
            have kr_18 : gr σ5 c0 9 = some 50 := (FX_r cσ5 (show ¬ (c0 = c0 + 1) from by first | omega | (have ugc0 := un gc0; omega)) (show ¬ ((c0 = c0 ∧ 9 = 4) ∨ (c0 = c0 ∧ 9 = 11)) from by first | omega | (have ugc0 := un gc0; omega))).trans kr_11
            refine ⟨?_, ?_⟩
            · intro q_19
              replace H := f_f q_19 H
              have b_20 : ¬ r6.toInt = 0 := fun h9 => q_19 (Int32.toInt_inj.mp h9)
              have z_21 : (-3 : Int32).toInt = -3 := rfl
              refine kF_X2_writes hc0 lc0 mσ5  (by omega) (by omega) (fun σ8 mσ8 cσ8 hσ8 => ?_)
              replace H := f_v hσ8 H
              have fσ8 : FX (fun id => id = c0 + 1) (fun id k => (id = c0 ∧ k = 4) ∨ (id = c0 ∧ k = 11)) σ0 σ8 := FX_tr fσ5 cσ8 (fun x (h9 : x = c0 + 1) => (show x = c0 + 1 from h9)) (fun x k (h9 : (x = c0 ∧ k = 4)) => (show (x = c0 + 1) ∨ ((x = c0 ∧ k = 4) ∨ (x = c0 ∧ k = 11)) from Or.inr (show (x = c0 ∧ k = 4) ∨ (x = c0 ∧ k = 11) from Or.inl (h9))))
              have k_22 : (gi σ8 c0 10).toInt = (gi σ5 c0 10).toInt := congrArg Int32.toInt (FX_i cσ8 (show ¬ (c0 = c0 + 1) from by first | omega | (have ugc0 := un gc0; omega)) (show ¬ ((c0 = c0 ∧ 10 = 4)) from by first | omega | (have ugc0 := un gc0; omega)))
              have k_23 : (gi σ8 c0 11).toInt = (gi σ5 c0 11).toInt := congrArg Int32.toInt (FX_i cσ8 (show ¬ (c0 = c0 + 1) from by first | omega | (have ugc0 := un gc0; omega)) (show ¬ ((c0 = c0 ∧ 11 = 4)) from by first | omega | (have ugc0 := un gc0; omega)))
              have kr_24 : gr σ8 c0 9 = some 50 := (FX_r cσ8 (show ¬ (c0 = c0 + 1) from by first | omega | (have ugc0 := un gc0; omega)) (show ¬ ((c0 = c0 ∧ 9 = 4)) from by first | omega | (have ugc0 := un gc0; omega))).trans kr_18
              intro v9 ev9
              replace H := f_l ev9 H
              have t_25 : (x2 + (1 : Int32)).toInt = x2.toInt + 1 := i_add (x := x2) (y := (1 : Int32)) (by show (_ : Int) ≤ x2.toInt + 1; omega) (by show x2.toInt + 1 ≤ (_ : Int); omega)
              have t_26 : v9.toInt = (x2 + (1 : Int32)).toInt := congrArg Int32.toInt ev9
              exact ih12 x1 v9 σ8 mσ8 fσ8 (by omega) (by omega) (by omega) (by omega) H (by omega)
            · intro q_19
              replace H := f_t q_19 H
              have b_27 : r6.toInt = 0 := congrArg Int32.toInt q_19
              have z_28 : (0 : Int32).toInt = 0 := rfl
              exact h9ret (0 : Int32) σ5 mσ5 fσ5 (by omega) (by omega) (H0.trans H.symm)
  have U12 := T 200
  have f0 : FX (fun id => id = c0 + 1) (fun id k => (id = c0 ∧ k = 4) ∨ (id = c0 ∧ k = 11)) σ0 σ0 := FX_rf
  have t_29 := XI_c1 m0 (id := c0) (k := 10) (lim_F0_10 hc0)
  have t_30 := XI_c1 m0 (id := c0) (k := 11) (lim_F0_11 hc0)
  have H := H0
  unfold F_X2_readsEither_r4 at H
  refine s_X2_readsEither_r4_0 C hN hc0 lc0 ?_
  refine kF_X2_readsBoth_r4 hc0 lc0 m0  (by omega) (by omega) (by first | with_reducible assumption | with_reducible rfl | omega | assumption | rfl) (fun r2 σ1 mσ1 cσ1 plσ1 phσ1 hσ1 => ?_)
  replace H := f_b hσ1 H
  have fσ1 : FX (fun id => id = c0 + 1) (fun id k => (id = c0 ∧ k = 4) ∨ (id = c0 ∧ k = 11)) σ0 σ1 := FX_tr f0 cσ1 (fun x (h9 : x = c0 + 1) => (show x = c0 + 1 from h9)) (fun x k (h9 : (x = c0 ∧ k = 4) ∨ (x = c0 ∧ k = 11)) => (show (x = c0 + 1) ∨ ((x = c0 ∧ k = 4) ∨ (x = c0 ∧ k = 11)) from h9.elim (fun e9 => Or.inr (show (x = c0 ∧ k = 4) ∨ (x = c0 ∧ k = 11) from Or.inl (e9))) (fun h9 => Or.inr (show (x = c0 ∧ k = 4) ∨ (x = c0 ∧ k = 11) from Or.inr (h9)))))
  have k_31 : (gi σ1 c0 10).toInt = (gi σ0 c0 10).toInt := congrArg Int32.toInt (FX_i cσ1 (show ¬ (c0 = c0 + 1) from by first | omega | (have ugc0 := un gc0; omega)) (show ¬ ((c0 = c0 ∧ 10 = 4) ∨ (c0 = c0 ∧ 10 = 11)) from by first | omega | (have ugc0 := un gc0; omega)))
  have t_32 := XI_c1 mσ1 (id := c0) (k := 11) (lim_F0_11 hc0)
  have kr_33 : gr σ1 c0 9 = some 50 := (FX_r cσ1 (show ¬ (c0 = c0 + 1) from by first | omega | (have ugc0 := un gc0; omega)) (show ¬ ((c0 = c0 ∧ 9 = 4) ∨ (c0 = c0 ∧ 9 = 11)) from by first | omega | (have ugc0 := un gc0; omega))).trans pre0
  refine ⟨?_, ?_⟩
  · intro q_34
    replace H := f_f q_34 H
    have b_35 : ¬ r2.toInt = 0 := fun h9 => q_34 (Int32.toInt_inj.mp h9)
    have z_36 : (0 : Int32).toInt = 0 := rfl
    exact U12 a1 (0 : Int32) σ1 mσ1 fσ1 (by omega) (by omega) (by omega) (by omega) H (by omega)
  · intro q_34
    replace H := f_t q_34 H
    have b_37 : r2.toInt = 0 := congrArg Int32.toInt q_34
    have z_38 : (0 : Int32).toInt = 0 := rfl
    exact h9ret (0 : Int32) σ1 mσ1 fσ1 (by omega) (by omega) (H0.trans H.symm)
set_option maxRecDepth 100000 in
set_option maxHeartbeats 4000000 in
theorem kF_X2_readsPart_r3 {l : Launch} {V : Vx} {c0 : Nat} {a1 : Int32} {σ0 : Sg} {Qk : Int32 → Sg → Prop} (hc0 : kd c0 = (12, 0)) (lc0 : c0 ∈ ids (V)) (m0 : XI V σ0) (l_a1 : 3 ≤ a1.toInt) (u_a1 : a1.toInt ≤ 3) (pre0 : gr σ0 c0 9 = some 50) (h9ret : ∀ (r : Int32) (σ' : Sg), XI V σ' → FX (fun id => id = c0 + 1) (fun id k => (id = c0 ∧ k = 4) ∨ (id = c0 ∧ k = 11)) σ0 σ' → (0 ≤ r.toInt) → (r.toInt ≤ 1) → (F_X2_readsPart_r3 c0 a1 σ0 = (r, σ')) → Qk r σ') : K_X2_readsPart_r3 l V c0 a1 σ0 Qk := by
  refine e_X2_readsPart_r3 (fun M hl hV hN C => ?_)
  subst hl
  subst hV
  obtain ⟨R9, H0⟩ : ∃ R9, F_X2_readsPart_r3 c0 a1 σ0 = R9 := ⟨_, rfl⟩
  have gc0 : hid _ := kdF_ge hc0
  have T : ∀ n : Nat, (∀ (x1 : Int32) (σ : Sg), XI (mV M) σ → FX (fun id => id = c0 + 1) (fun id k => (id = c0 ∧ k = 4) ∨ (id = c0 ∧ k = 11)) σ0 σ → (3 ≤ x1.toInt) → (x1.toInt ≤ 3) → (LF_X2_readsPart_r3 c0 n x1 σ = R9) → 1 < n → PS M 33 [(0, .ref c0), (1, .int x1)] [] σ (0, 0)) := by
    intro n
    induction n with
    | zero => exact fun _ _ _ _ _ _ _ h8 => absurd h8 (Nat.not_lt_zero _)
    | succ n ih =>
      have ih33 := ih
      · intro x1 σ mσ fσ lx1 ux1 H hmu
        replace H : LB_X2_readsPart_r3_33 c0 (LF_X2_readsPart_r3 c0 n) x1 σ = R9 := H
        unfold LB_X2_readsPart_r3_33 at H
        have kr_c0_9 : gr σ c0 9 = some 50 := (FX_r fσ (show ¬ (c0 = c0 + 1) from by first | omega | (have ugc0 := un gc0; omega)) (show ¬ ((c0 = c0 ∧ 9 = 4) ∨ (c0 = c0 ∧ 9 = 11)) from by first | omega | (have ugc0 := un gc0; omega))).trans pre0
        have k_1 : (gi σ c0 10).toInt = (gi σ0 c0 10).toInt := congrArg Int32.toInt (FX_i fσ (show ¬ (c0 = c0 + 1) from by first | omega | (have ugc0 := un gc0; omega)) (show ¬ ((c0 = c0 ∧ 10 = 4) ∨ (c0 = c0 ∧ 10 = 11)) from by first | omega | (have ugc0 := un gc0; omega)))
        have t_2 := XI_c1 mσ (id := c0) (k := 10) (lim_F0_10 hc0)
        have t_3 := XI_c1 mσ (id := c0) (k := 11) (lim_F0_11 hc0)
        refine s_X2_readsPart_r3_33 C hN hc0 lc0 ?_
        refine ⟨?_, ?_⟩
        · intro q_4
          replace H := f_t q_4 H
          have b_5 : (4 : Int) ≤ x1.toInt := Int32.le_iff_toInt_le.mp q_4
          refine kF_X2_readsTest hc0 lc0 mσ  (by first | with_reducible assumption | with_reducible rfl | omega | assumption | rfl) (fun r3 σ2 mσ2 cσ2 plσ2 phσ2 hσ2 => ?_)
          replace H := f_b hσ2 H
          have fσ2 : FX (fun id => id = c0 + 1) (fun id k => (id = c0 ∧ k = 4) ∨ (id = c0 ∧ k = 11)) σ0 σ2 := FX_tr fσ cσ2 (fun x (h9 : x = c0 + 1) => (show x = c0 + 1 from h9)) (fun x k (h9 : (x = c0 ∧ k = 4) ∨ (x = c0 ∧ k = 11)) => (show (x = c0 + 1) ∨ ((x = c0 ∧ k = 4) ∨ (x = c0 ∧ k = 11)) from h9.elim (fun e9 => Or.inr (show (x = c0 ∧ k = 4) ∨ (x = c0 ∧ k = 11) from Or.inl (e9))) (fun h9 => Or.inr (show (x = c0 ∧ k = 4) ∨ (x = c0 ∧ k = 11) from Or.inr (h9)))))
          have k_6 : (gi σ2 c0 10).toInt = (gi σ c0 10).toInt := congrArg Int32.toInt (FX_i cσ2 (show ¬ (c0 = c0 + 1) from by first | omega | (have ugc0 := un gc0; omega)) (show ¬ ((c0 = c0 ∧ 10 = 4) ∨ (c0 = c0 ∧ 10 = 11)) from by first | omega | (have ugc0 := un gc0; omega)))
          have t_7 := XI_c1 mσ2 (id := c0) (k := 11) (lim_F0_11 hc0)
          have kr_8 : gr σ2 c0 9 = some 50 := (FX_r cσ2 (show ¬ (c0 = c0 + 1) from by first | omega | (have ugc0 := un gc0; omega)) (show ¬ ((c0 = c0 ∧ 9 = 4) ∨ (c0 = c0 ∧ 9 = 11)) from by first | omega | (have ugc0 := un gc0; omega))).trans kr_c0_9
          refine ⟨i_bool (by omega) (by omega), ?_⟩
          exact h9ret r3 σ2 mσ2 fσ2 (by omega) (by omega) (H0.trans H.symm)
        · intro q_4
          replace H := f_f q_4 H
          have b_9 : ¬ (4 : Int) ≤ x1.toInt := fun h9 => q_4 (Int32.le_iff_toInt_le.mpr h9)
          have z_10 : (40 : Int32).toInt = 40 := rfl
          refine kF_X2_takes hc0 lc0 mσ  (by omega) (by omega) (by first | with_reducible assumption | with_reducible rfl | omega | assumption | rfl) (fun r5 σ4 mσ4 cσ4 plσ4 phσ4 hσ4 => ?_)
          replace H := f_b hσ4 H
          have fσ4 : FX (fun id => id = c0 + 1) (fun id k => (id = c0 ∧ k = 4) ∨ (id = c0 ∧ k = 11)) σ0 σ4 := FX_tr fσ cσ4 (fun _ h9 => h9.elim) (fun x k (h9 : (x = c0 ∧ k = 11)) => (show (x = c0 + 1) ∨ ((x = c0 ∧ k = 4) ∨ (x = c0 ∧ k = 11)) from Or.inr (show (x = c0 ∧ k = 4) ∨ (x = c0 ∧ k = 11) from Or.inr (h9))))
          have k_11 : (gi σ4 c0 10).toInt = (gi σ c0 10).toInt := congrArg Int32.toInt (FX_i cσ4 id (show ¬ ((c0 = c0 ∧ 10 = 11)) from by first | omega | (have ugc0 := un gc0; omega)))
          have t_12 := XI_c1 mσ4 (id := c0) (k := 11) (lim_F0_11 hc0)
          have kr_13 : gr σ4 c0 9 = some 50 := (FX_r cσ4 id (show ¬ ((c0 = c0 ∧ 9 = 11)) from by first | omega | (have ugc0 := un gc0; omega))).trans kr_c0_9
          refine ⟨?_, ?_⟩
          · intro q_14
            replace H := f_t q_14 H
            have b_15 : r5.toInt = 0 := congrArg Int32.toInt q_14
            refine kF_X2_readsTest hc0 lc0 mσ4  (by first | with_reducible assumption | with_reducible rfl | omega | assumption | rfl) (fun r8 σ7 mσ7 cσ7 plσ7 phσ7 hσ7 => ?_)
            replace H := f_b hσ7 H
            have fσ7 : FX (fun id => id = c0 + 1) (fun id k => (id = c0 ∧ k = 4) ∨ (id = c0 ∧ k = 11)) σ0 σ7 := FX_tr fσ4 cσ7 (fun x (h9 : x = c0 + 1) => (show x = c0 + 1 from h9)) (fun x k (h9 : (x = c0 ∧ k = 4) ∨ (x = c0 ∧ k = 11)) => (show (x = c0 + 1) ∨ ((x = c0 ∧ k = 4) ∨ (x = c0 ∧ k = 11)) from h9.elim (fun e9 => Or.inr (show (x = c0 ∧ k = 4) ∨ (x = c0 ∧ k = 11) from Or.inl (e9))) (fun h9 => Or.inr (show (x = c0 ∧ k = 4) ∨ (x = c0 ∧ k = 11) from Or.inr (h9)))))
            have k_16 : (gi σ7 c0 10).toInt = (gi σ4 c0 10).toInt := congrArg Int32.toInt (FX_i cσ7 (show ¬ (c0 = c0 + 1) from by first | omega | (have ugc0 := un gc0; omega)) (show ¬ ((c0 = c0 ∧ 10 = 4) ∨ (c0 = c0 ∧ 10 = 11)) from by first | omega | (have ugc0 := un gc0; omega)))
            have t_17 := XI_c1 mσ7 (id := c0) (k := 11) (lim_F0_11 hc0)
            have kr_18 : gr σ7 c0 9 = some 50 := (FX_r cσ7 (show ¬ (c0 = c0 + 1) from by first | omega | (have ugc0 := un gc0; omega)) (show ¬ ((c0 = c0 ∧ 9 = 4) ∨ (c0 = c0 ∧ 9 = 11)) from by first | omega | (have ugc0 := un gc0; omega))).trans kr_13
            refine ⟨i_bool (by omega) (by omega), ?_⟩
            exact h9ret r8 σ7 mσ7 fσ7 (by omega) (by omega) (H0.trans H.symm)
          · intro q_14
            replace H := f_f q_14 H
            have b_19 : ¬ r5.toInt = 0 := fun h9 => q_14 (Int32.toInt_inj.mp h9)
            have t_20 : (x1 + (1 : Int32)).toInt = x1.toInt + 1 := i_add (x := x1) (y := (1 : Int32)) (by show (_ : Int) ≤ x1.toInt + 1; omega) (by show x1.toInt + 1 ≤ (_ : Int); omega)
            refine kF_X2_readsEither_r4 hc0 lc0 mσ4  (by omega) (by omega) (by first | with_reducible assumption | with_reducible rfl | omega | assumption | rfl) (fun r10 σ9 mσ9 cσ9 plσ9 phσ9 hσ9 => ?_)
            replace H := f_b hσ9 H
            have fσ9 : FX (fun id => id = c0 + 1) (fun id k => (id = c0 ∧ k = 4) ∨ (id = c0 ∧ k = 11)) σ0 σ9 := FX_tr fσ4 cσ9 (fun x (h9 : x = c0 + 1) => (show x = c0 + 1 from h9)) (fun x k (h9 : (x = c0 ∧ k = 4) ∨ (x = c0 ∧ k = 11)) => (show (x = c0 + 1) ∨ ((x = c0 ∧ k = 4) ∨ (x = c0 ∧ k = 11)) from h9.elim (fun e9 => Or.inr (show (x = c0 ∧ k = 4) ∨ (x = c0 ∧ k = 11) from Or.inl (e9))) (fun h9 => Or.inr (show (x = c0 ∧ k = 4) ∨ (x = c0 ∧ k = 11) from Or.inr (h9)))))
            have k_21 : (gi σ9 c0 10).toInt = (gi σ4 c0 10).toInt := congrArg Int32.toInt (FX_i cσ9 (show ¬ (c0 = c0 + 1) from by first | omega | (have ugc0 := un gc0; omega)) (show ¬ ((c0 = c0 ∧ 10 = 4) ∨ (c0 = c0 ∧ 10 = 11)) from by first | omega | (have ugc0 := un gc0; omega)))
            have t_22 := XI_c1 mσ9 (id := c0) (k := 11) (lim_F0_11 hc0)
            have kr_23 : gr σ9 c0 9 = some 50 := (FX_r cσ9 (show ¬ (c0 = c0 + 1) from by first | omega | (have ugc0 := un gc0; omega)) (show ¬ ((c0 = c0 ∧ 9 = 4) ∨ (c0 = c0 ∧ 9 = 11)) from by first | omega | (have ugc0 := un gc0; omega))).trans kr_13
            refine ⟨?_, ?_⟩
            · intro q_24
              replace H := f_t q_24 H
              have b_25 : r10.toInt = 0 := congrArg Int32.toInt q_24
              have z_26 : (0 : Int32).toInt = 0 := rfl
              exact h9ret (0 : Int32) σ9 mσ9 fσ9 (by omega) (by omega) (H0.trans H.symm)
            · intro q_24
              replace H := f_f q_24 H
              have b_27 : ¬ r10.toInt = 0 := fun h9 => q_24 (Int32.toInt_inj.mp h9)
              have z_28 : (41 : Int32).toInt = 41 := rfl
              refine kF_X2_takes hc0 lc0 mσ9  (by omega) (by omega) (by first | with_reducible assumption | with_reducible rfl | omega | assumption | rfl) (fun r13 σ12 mσ12 cσ12 plσ12 phσ12 hσ12 => ?_)
              replace H := f_b hσ12 H
              have fσ12 : FX (fun id => id = c0 + 1) (fun id k => (id = c0 ∧ k = 4) ∨ (id = c0 ∧ k = 11)) σ0 σ12 := FX_tr fσ9 cσ12 (fun _ h9 => h9.elim) (fun x k (h9 : (x = c0 ∧ k = 11)) => (show (x = c0 + 1) ∨ ((x = c0 ∧ k = 4) ∨ (x = c0 ∧ k = 11)) from Or.inr (show (x = c0 ∧ k = 4) ∨ (x = c0 ∧ k = 11) from Or.inr (h9))))
              have k_29 : (gi σ12 c0 10).toInt = (gi σ9 c0 10).toInt := congrArg Int32.toInt (FX_i cσ12 id (show ¬ ((c0 = c0 ∧ 10 = 11)) from by first | omega | (have ugc0 := un gc0; omega)))
              have t_30 := XI_c1 mσ12 (id := c0) (k := 11) (lim_F0_11 hc0)
              have kr_31 : gr σ12 c0 9 = some 50 := (FX_r cσ12 id (show ¬ ((c0 = c0 ∧ 9 = 11)) from by first | omega | (have ugc0 := un gc0; omega))).trans kr_23
              refine ⟨?_, ?_⟩
              · intro q_32
                replace H := f_t q_32 H
                have b_33 : r13.toInt = 0 := congrArg Int32.toInt q_32
                have z_34 : (0 : Int32).toInt = 0 := rfl
                exact h9ret (0 : Int32) σ12 mσ12 fσ12 (by omega) (by omega) (H0.trans H.symm)
              · intro q_32
                replace H := f_f q_32 H
                have b_35 : ¬ r13.toInt = 0 := fun h9 => q_32 (Int32.toInt_inj.mp h9)
                have z_36 : (1 : Int32).toInt = 1 := rfl
                exact h9ret (1 : Int32) σ12 mσ12 fσ12 (by omega) (by omega) (H0.trans H.symm)
  have U33 := T 9
  have f0 : FX (fun id => id = c0 + 1) (fun id k => (id = c0 ∧ k = 4) ∨ (id = c0 ∧ k = 11)) σ0 σ0 := FX_rf
  have t_37 := XI_c1 m0 (id := c0) (k := 10) (lim_F0_10 hc0)
  have t_38 := XI_c1 m0 (id := c0) (k := 11) (lim_F0_11 hc0)
  have H := H0
  unfold F_X2_readsPart_r3 at H
  refine s_X2_readsPart_r3_0 C hN hc0 lc0 ?_
  refine ⟨?_, ?_⟩
  · intro q_39
    replace H := f_t q_39 H
    have b_40 : (4 : Int) ≤ a1.toInt := Int32.le_iff_toInt_le.mp q_39
    exact U33 a1 σ0 m0 f0 (by omega) (by omega) H (by omega)
  · intro q_39
    replace H := f_f q_39 H
    have b_41 : ¬ (4 : Int) ≤ a1.toInt := fun h9 => q_39 (Int32.le_iff_toInt_le.mpr h9)
    have z_42 : (33 : Int32).toInt = 33 := rfl
    refine kF_X2_takes hc0 lc0 m0  (by omega) (by omega) (by first | with_reducible assumption | with_reducible rfl | omega | assumption | rfl) (fun r3 σ2 mσ2 cσ2 plσ2 phσ2 hσ2 => ?_)
    replace H := f_b hσ2 H
    have fσ2 : FX (fun id => id = c0 + 1) (fun id k => (id = c0 ∧ k = 4) ∨ (id = c0 ∧ k = 11)) σ0 σ2 := FX_tr f0 cσ2 (fun _ h9 => h9.elim) (fun x k (h9 : (x = c0 ∧ k = 11)) => (show (x = c0 + 1) ∨ ((x = c0 ∧ k = 4) ∨ (x = c0 ∧ k = 11)) from Or.inr (show (x = c0 ∧ k = 4) ∨ (x = c0 ∧ k = 11) from Or.inr (h9))))
    have k_43 : (gi σ2 c0 10).toInt = (gi σ0 c0 10).toInt := congrArg Int32.toInt (FX_i cσ2 id (show ¬ ((c0 = c0 ∧ 10 = 11)) from by first | omega | (have ugc0 := un gc0; omega)))
    have t_44 := XI_c1 mσ2 (id := c0) (k := 11) (lim_F0_11 hc0)
    have kr_45 : gr σ2 c0 9 = some 50 := (FX_r cσ2 id (show ¬ ((c0 = c0 ∧ 9 = 11)) from by first | omega | (have ugc0 := un gc0; omega))).trans pre0
    refine ⟨?_, ?_⟩
    · intro q_46
      replace H := f_t q_46 H
      have b_47 : r3.toInt = 0 := congrArg Int32.toInt q_46
      exact U33 a1 σ2 mσ2 fσ2 (by omega) (by omega) H (by omega)
    · intro q_46
      replace H := f_f q_46 H
      have b_48 : ¬ r3.toInt = 0 := fun h9 => q_46 (Int32.toInt_inj.mp h9)
      have t_49 : (a1 + (1 : Int32)).toInt = a1.toInt + 1 := i_add (x := a1) (y := (1 : Int32)) (by show (_ : Int) ≤ a1.toInt + 1; omega) (by show a1.toInt + 1 ≤ (_ : Int); omega)
      refine kF_X2_readsPart_r4 hc0 lc0 mσ2  (by omega) (by omega) (by first | with_reducible assumption | with_reducible rfl | omega | assumption | rfl) (fun r6 σ5 mσ5 cσ5 plσ5 phσ5 hσ5 => ?_)
      replace H := f_b hσ5 H
      have fσ5 : FX (fun id => id = c0 + 1) (fun id k => (id = c0 ∧ k = 4) ∨ (id = c0 ∧ k = 11)) σ0 σ5 := FX_tr fσ2 cσ5 (fun x (h9 : x = c0 + 1) => (show x = c0 + 1 from h9)) (fun x k (h9 : (x = c0 ∧ k = 4) ∨ (x = c0 ∧ k = 11)) => (show (x = c0 + 1) ∨ ((x = c0 ∧ k = 4) ∨ (x = c0 ∧ k = 11)) from h9.elim (fun e9 => Or.inr (show (x = c0 ∧ k = 4) ∨ (x = c0 ∧ k = 11) from Or.inl (e9))) (fun h9 => Or.inr (show (x = c0 ∧ k = 4) ∨ (x = c0 ∧ k = 11) from Or.inr (h9)))))
      have k_50 : (gi σ5 c0 10).toInt = (gi σ2 c0 10).toInt := congrArg Int32.toInt (FX_i cσ5 (show ¬ (c0 = c0 + 1) from by first | omega | (have ugc0 := un gc0; omega)) (show ¬ ((c0 = c0 ∧ 10 = 4) ∨ (c0 = c0 ∧ 10 = 11)) from by first | omega | (have ugc0 := un gc0; omega)))
      have t_51 := XI_c1 mσ5 (id := c0) (k := 11) (lim_F0_11 hc0)
      have kr_52 : gr σ5 c0 9 = some 50 := (FX_r cσ5 (show ¬ (c0 = c0 + 1) from by first | omega | (have ugc0 := un gc0; omega)) (show ¬ ((c0 = c0 ∧ 9 = 4) ∨ (c0 = c0 ∧ 9 = 11)) from by first | omega | (have ugc0 := un gc0; omega))).trans kr_45
      refine ⟨?_, ?_⟩
      · intro q_53
        replace H := f_f q_53 H
        have b_54 : ¬ r6.toInt = 0 := fun h9 => q_53 (Int32.toInt_inj.mp h9)
        have z_55 : (-1 : Int32).toInt = -1 := rfl
        refine kF_X2_writes hc0 lc0 mσ5  (by omega) (by omega) (fun σ8 mσ8 cσ8 hσ8 => ?_)
        replace H := f_v hσ8 H
        have fσ8 : FX (fun id => id = c0 + 1) (fun id k => (id = c0 ∧ k = 4) ∨ (id = c0 ∧ k = 11)) σ0 σ8 := FX_tr fσ5 cσ8 (fun x (h9 : x = c0 + 1) => (show x = c0 + 1 from h9)) (fun x k (h9 : (x = c0 ∧ k = 4)) => (show (x = c0 + 1) ∨ ((x = c0 ∧ k = 4) ∨ (x = c0 ∧ k = 11)) from Or.inr (show (x = c0 ∧ k = 4) ∨ (x = c0 ∧ k = 11) from Or.inl (h9))))
        have k_56 : (gi σ8 c0 10).toInt = (gi σ5 c0 10).toInt := congrArg Int32.toInt (FX_i cσ8 (show ¬ (c0 = c0 + 1) from by first | omega | (have ugc0 := un gc0; omega)) (show ¬ ((c0 = c0 ∧ 10 = 4)) from by first | omega | (have ugc0 := un gc0; omega)))
        have k_57 : (gi σ8 c0 11).toInt = (gi σ5 c0 11).toInt := congrArg Int32.toInt (FX_i cσ8 (show ¬ (c0 = c0 + 1) from by first | omega | (have ugc0 := un gc0; omega)) (show ¬ ((c0 = c0 ∧ 11 = 4)) from by first | omega | (have ugc0 := un gc0; omega)))
        have kr_58 : gr σ8 c0 9 = some 50 := (FX_r cσ8 (show ¬ (c0 = c0 + 1) from by first | omega | (have ugc0 := un gc0; omega)) (show ¬ ((c0 = c0 ∧ 9 = 4)) from by first | omega | (have ugc0 := un gc0; omega))).trans kr_52
        have z_59 : (1 : Int32).toInt = 1 := rfl
        exact h9ret (1 : Int32) σ8 mσ8 fσ8 (by omega) (by omega) (H0.trans H.symm)
      · intro q_53
        replace H := f_t q_53 H
        have b_60 : r6.toInt = 0 := congrArg Int32.toInt q_53
        have z_61 : (0 : Int32).toInt = 0 := rfl
        exact h9ret (0 : Int32) σ5 mσ5 fσ5 (by omega) (by omega) (H0.trans H.symm)
set_option maxRecDepth 100000 in
set_option maxHeartbeats 4000000 in
theorem kF_X2_readsBoth_r3 {l : Launch} {V : Vx} {c0 : Nat} {a1 : Int32} {σ0 : Sg} {Qk : Int32 → Sg → Prop} (hc0 : kd c0 = (12, 0)) (lc0 : c0 ∈ ids (V)) (m0 : XI V σ0) (l_a1 : 3 ≤ a1.toInt) (u_a1 : a1.toInt ≤ 3) (pre0 : gr σ0 c0 9 = some 50) (h9ret : ∀ (r : Int32) (σ' : Sg), XI V σ' → FX (fun id => id = c0 + 1) (fun id k => (id = c0 ∧ k = 4) ∨ (id = c0 ∧ k = 11)) σ0 σ' → (0 ≤ r.toInt) → (r.toInt ≤ 1) → (F_X2_readsBoth_r3 c0 a1 σ0 = (r, σ')) → Qk r σ') : K_X2_readsBoth_r3 l V c0 a1 σ0 Qk := by
  refine e_X2_readsBoth_r3 (fun M hl hV hN C => ?_)
  subst hl
  subst hV
  obtain ⟨R9, H0⟩ : ∃ R9, F_X2_readsBoth_r3 c0 a1 σ0 = R9 := ⟨_, rfl⟩
  have gc0 : hid _ := kdF_ge hc0
  have T : ∀ n : Nat, (∀ (x1 : Int32) (x2 : Int32) (σ : Sg), XI (mV M) σ → FX (fun id => id = c0 + 1) (fun id k => (id = c0 ∧ k = 4) ∨ (id = c0 ∧ k = 11)) σ0 σ → (3 ≤ x1.toInt) → (x1.toInt ≤ 3) → (0 ≤ x2.toInt) → (x2.toInt ≤ 100) → (LF_X2_readsBoth_r3 c0 n x1 x2 σ = R9) → (101 - x2.toInt).toNat < n → PS M 12 [(0, .ref c0), (1, .int x1), (2, .int x2)] [] σ (0, 0)) := by
    intro n
    induction n with
    | zero => exact fun _ _ _ _ _ _ _ _ _ _ h8 => absurd h8 (Nat.not_lt_zero _)
    | succ n ih =>
      have ih12 := ih
      · intro x1 x2 σ mσ fσ lx1 ux1 lx2 ux2 H hmu
        replace H : LB_X2_readsBoth_r3_12 c0 (LF_X2_readsBoth_r3 c0 n) x1 x2 σ = R9 := H
        unfold LB_X2_readsBoth_r3_12 at H
        have kr_c0_9 : gr σ c0 9 = some 50 := (FX_r fσ (show ¬ (c0 = c0 + 1) from by first | omega | (have ugc0 := un gc0; omega)) (show ¬ ((c0 = c0 ∧ 9 = 4) ∨ (c0 = c0 ∧ 9 = 11)) from by first | omega | (have ugc0 := un gc0; omega))).trans pre0
        have k_1 : (gi σ c0 10).toInt = (gi σ0 c0 10).toInt := congrArg Int32.toInt (FX_i fσ (show ¬ (c0 = c0 + 1) from by first | omega | (have ugc0 := un gc0; omega)) (show ¬ ((c0 = c0 ∧ 10 = 4) ∨ (c0 = c0 ∧ 10 = 11)) from by first | omega | (have ugc0 := un gc0; omega)))
        have t_2 := XI_c1 mσ (id := c0) (k := 10) (lim_F0_10 hc0)
        have t_3 := XI_c1 mσ (id := c0) (k := 11) (lim_F0_11 hc0)
        refine s_X2_readsBoth_r3_12 C hN hc0 lc0 ?_
        refine ⟨?_, ?_⟩
        · intro q_4
          replace H := f_t q_4 H
          have b_5 : (100 : Int) ≤ x2.toInt := Int32.le_iff_toInt_le.mp q_4
          have z_6 : (1 : Int32).toInt = 1 := rfl
          exact h9ret (1 : Int32) σ mσ fσ (by omega) (by omega) (H0.trans H.symm)
        · intro q_4
          replace H := f_f q_4 H
          have b_7 : ¬ (100 : Int) ≤ x2.toInt := fun h9 => q_4 (Int32.le_iff_toInt_le.mpr h9)
          have z_8 : (38 : Int32).toInt = 38 := rfl
          refine kF_X2_takes hc0 lc0 mσ  (by omega) (by omega) (by first | with_reducible assumption | with_reducible rfl | omega | assumption | rfl) (fun r3 σ2 mσ2 cσ2 plσ2 phσ2 hσ2 => ?_)
          replace H := f_b hσ2 H
          have fσ2 : FX (fun id => id = c0 + 1) (fun id k => (id = c0 ∧ k = 4) ∨ (id = c0 ∧ k = 11)) σ0 σ2 := FX_tr fσ cσ2 (fun _ h9 => h9.elim) (fun x k (h9 : (x = c0 ∧ k = 11)) => (show (x = c0 + 1) ∨ ((x = c0 ∧ k = 4) ∨ (x = c0 ∧ k = 11)) from Or.inr (show (x = c0 ∧ k = 4) ∨ (x = c0 ∧ k = 11) from Or.inr (h9))))
          have k_9 : (gi σ2 c0 10).toInt = (gi σ c0 10).toInt := congrArg Int32.toInt (FX_i cσ2 id (show ¬ ((c0 = c0 ∧ 10 = 11)) from by first | omega | (have ugc0 := un gc0; omega)))
          have t_10 := XI_c1 mσ2 (id := c0) (k := 11) (lim_F0_11 hc0)
          have kr_11 : gr σ2 c0 9 = some 50 := (FX_r cσ2 id (show ¬ ((c0 = c0 ∧ 9 = 11)) from by first | omega | (have ugc0 := un gc0; omega))).trans kr_c0_9
          refine ⟨?_, ?_⟩
          · intro q_12
            replace H := f_t q_12 H
            have b_13 : r3.toInt = 0 := congrArg Int32.toInt q_12
            have z_14 : (1 : Int32).toInt = 1 := rfl
            exact h9ret (1 : Int32) σ2 mσ2 fσ2 (by omega) (by omega) (H0.trans H.symm)
          · intro q_12
            replace H := f_f q_12 H
            have b_15 : ¬ r3.toInt = 0 := fun h9 => q_12 (Int32.toInt_inj.mp h9)
            refine kF_X2_readsPart_r3 hc0 lc0 mσ2  (by omega) (by omega) (by first | with_reducible assumption | with_reducible rfl | omega | assumption | rfl) (fun r6 σ5 mσ5 cσ5 plσ5 phσ5 hσ5 => ?_)
            replace H := f_b hσ5 H
            have fσ5 : FX (fun id => id = c0 + 1) (fun id k => (id = c0 ∧ k = 4) ∨ (id = c0 ∧ k = 11)) σ0 σ5 := FX_tr fσ2 cσ5 (fun x (h9 : x = c0 + 1) => (show x = c0 + 1 from h9)) (fun x k (h9 : (x = c0 ∧ k = 4) ∨ (x = c0 ∧ k = 11)) => (show (x = c0 + 1) ∨ ((x = c0 ∧ k = 4) ∨ (x = c0 ∧ k = 11)) from h9.elim (fun e9 => Or.inr (show (x = c0 ∧ k = 4) ∨ (x = c0 ∧ k = 11) from Or.inl (e9))) (fun h9 => Or.inr (show (x = c0 ∧ k = 4) ∨ (x = c0 ∧ k = 11) from Or.inr (h9)))))
            have k_16 : (gi σ5 c0 10).toInt = (gi σ2 c0 10).toInt := congrArg Int32.toInt (FX_i cσ5 (show ¬ (c0 = c0 + 1) from by first | omega | (have ugc0 := un gc0; omega)) (show ¬ ((c0 = c0 ∧ 10 = 4) ∨ (c0 = c0 ∧ 10 = 11)) from by first | omega | (have ugc0 := un gc0; omega)))
            have t_17 := XI_c1 mσ5 (id := c0) (k := 11) (lim_F0_11 hc0)
            have kr_18 : gr σ5 c0 9 = some 50 := (FX_r cσ5 (show ¬ (c0 = c0 + 1) from by first | omega | (have ugc0 := un gc0; omega)) (show ¬ ((c0 = c0 ∧ 9 = 4) ∨ (c0 = c0 ∧ 9 = 11)) from by first | omega | (have ugc0 := un gc0; omega))).trans kr_11
            refine ⟨?_, ?_⟩
            · intro q_19
              replace H := f_f q_19 H
              have b_20 : ¬ r6.toInt = 0 := fun h9 => q_19 (Int32.toInt_inj.mp h9)
              have z_21 : (-2 : Int32).toInt = -2 := rfl
              refine kF_X2_writes hc0 lc0 mσ5  (by omega) (by omega) (fun σ8 mσ8 cσ8 hσ8 => ?_)
              replace H := f_v hσ8 H
              have fσ8 : FX (fun id => id = c0 + 1) (fun id k => (id = c0 ∧ k = 4) ∨ (id = c0 ∧ k = 11)) σ0 σ8 := FX_tr fσ5 cσ8 (fun x (h9 : x = c0 + 1) => (show x = c0 + 1 from h9)) (fun x k (h9 : (x = c0 ∧ k = 4)) => (show (x = c0 + 1) ∨ ((x = c0 ∧ k = 4) ∨ (x = c0 ∧ k = 11)) from Or.inr (show (x = c0 ∧ k = 4) ∨ (x = c0 ∧ k = 11) from Or.inl (h9))))
              have k_22 : (gi σ8 c0 10).toInt = (gi σ5 c0 10).toInt := congrArg Int32.toInt (FX_i cσ8 (show ¬ (c0 = c0 + 1) from by first | omega | (have ugc0 := un gc0; omega)) (show ¬ ((c0 = c0 ∧ 10 = 4)) from by first | omega | (have ugc0 := un gc0; omega)))
              have k_23 : (gi σ8 c0 11).toInt = (gi σ5 c0 11).toInt := congrArg Int32.toInt (FX_i cσ8 (show ¬ (c0 = c0 + 1) from by first | omega | (have ugc0 := un gc0; omega)) (show ¬ ((c0 = c0 ∧ 11 = 4)) from by first | omega | (have ugc0 := un gc0; omega)))
              have kr_24 : gr σ8 c0 9 = some 50 := (FX_r cσ8 (show ¬ (c0 = c0 + 1) from by first | omega | (have ugc0 := un gc0; omega)) (show ¬ ((c0 = c0 ∧ 9 = 4)) from by first | omega | (have ugc0 := un gc0; omega))).trans kr_18
              intro v9 ev9
              replace H := f_l ev9 H
              have t_25 : (x2 + (1 : Int32)).toInt = x2.toInt + 1 := i_add (x := x2) (y := (1 : Int32)) (by show (_ : Int) ≤ x2.toInt + 1; omega) (by show x2.toInt + 1 ≤ (_ : Int); omega)
              have t_26 : v9.toInt = (x2 + (1 : Int32)).toInt := congrArg Int32.toInt ev9
              exact ih12 x1 v9 σ8 mσ8 fσ8 (by omega) (by omega) (by omega) (by omega) H (by omega)
            · intro q_19
              replace H := f_t q_19 H
              have b_27 : r6.toInt = 0 := congrArg Int32.toInt q_19
              have z_28 : (0 : Int32).toInt = 0 := rfl
              exact h9ret (0 : Int32) σ5 mσ5 fσ5 (by omega) (by omega) (H0.trans H.symm)
  have U12 := T 200
  have f0 : FX (fun id => id = c0 + 1) (fun id k => (id = c0 ∧ k = 4) ∨ (id = c0 ∧ k = 11)) σ0 σ0 := FX_rf
  have t_29 := XI_c1 m0 (id := c0) (k := 10) (lim_F0_10 hc0)
  have t_30 := XI_c1 m0 (id := c0) (k := 11) (lim_F0_11 hc0)
  have H := H0
  unfold F_X2_readsBoth_r3 at H
  refine s_X2_readsBoth_r3_0 C hN hc0 lc0 ?_
  refine kF_X2_readsPart_r3 hc0 lc0 m0  (by omega) (by omega) (by first | with_reducible assumption | with_reducible rfl | omega | assumption | rfl) (fun r2 σ1 mσ1 cσ1 plσ1 phσ1 hσ1 => ?_)
  replace H := f_b hσ1 H
  have fσ1 : FX (fun id => id = c0 + 1) (fun id k => (id = c0 ∧ k = 4) ∨ (id = c0 ∧ k = 11)) σ0 σ1 := FX_tr f0 cσ1 (fun x (h9 : x = c0 + 1) => (show x = c0 + 1 from h9)) (fun x k (h9 : (x = c0 ∧ k = 4) ∨ (x = c0 ∧ k = 11)) => (show (x = c0 + 1) ∨ ((x = c0 ∧ k = 4) ∨ (x = c0 ∧ k = 11)) from h9.elim (fun e9 => Or.inr (show (x = c0 ∧ k = 4) ∨ (x = c0 ∧ k = 11) from Or.inl (e9))) (fun h9 => Or.inr (show (x = c0 ∧ k = 4) ∨ (x = c0 ∧ k = 11) from Or.inr (h9)))))
  have k_31 : (gi σ1 c0 10).toInt = (gi σ0 c0 10).toInt := congrArg Int32.toInt (FX_i cσ1 (show ¬ (c0 = c0 + 1) from by first | omega | (have ugc0 := un gc0; omega)) (show ¬ ((c0 = c0 ∧ 10 = 4) ∨ (c0 = c0 ∧ 10 = 11)) from by first | omega | (have ugc0 := un gc0; omega)))
  have t_32 := XI_c1 mσ1 (id := c0) (k := 11) (lim_F0_11 hc0)
  have kr_33 : gr σ1 c0 9 = some 50 := (FX_r cσ1 (show ¬ (c0 = c0 + 1) from by first | omega | (have ugc0 := un gc0; omega)) (show ¬ ((c0 = c0 ∧ 9 = 4) ∨ (c0 = c0 ∧ 9 = 11)) from by first | omega | (have ugc0 := un gc0; omega))).trans pre0
  refine ⟨?_, ?_⟩
  · intro q_34
    replace H := f_f q_34 H
    have b_35 : ¬ r2.toInt = 0 := fun h9 => q_34 (Int32.toInt_inj.mp h9)
    have z_36 : (0 : Int32).toInt = 0 := rfl
    exact U12 a1 (0 : Int32) σ1 mσ1 fσ1 (by omega) (by omega) (by omega) (by omega) H (by omega)
  · intro q_34
    replace H := f_t q_34 H
    have b_37 : r2.toInt = 0 := congrArg Int32.toInt q_34
    have z_38 : (0 : Int32).toInt = 0 := rfl
    exact h9ret (0 : Int32) σ1 mσ1 fσ1 (by omega) (by omega) (H0.trans H.symm)
set_option maxRecDepth 100000 in
set_option maxHeartbeats 4000000 in
theorem kF_X2_readsEither_r3 {l : Launch} {V : Vx} {c0 : Nat} {a1 : Int32} {σ0 : Sg} {Qk : Int32 → Sg → Prop} (hc0 : kd c0 = (12, 0)) (lc0 : c0 ∈ ids (V)) (m0 : XI V σ0) (l_a1 : 3 ≤ a1.toInt) (u_a1 : a1.toInt ≤ 3) (pre0 : gr σ0 c0 9 = some 50) (h9ret : ∀ (r : Int32) (σ' : Sg), XI V σ' → FX (fun id => id = c0 + 1) (fun id k => (id = c0 ∧ k = 4) ∨ (id = c0 ∧ k = 11)) σ0 σ' → (0 ≤ r.toInt) → (r.toInt ≤ 1) → (F_X2_readsEither_r3 c0 a1 σ0 = (r, σ')) → Qk r σ') : K_X2_readsEither_r3 l V c0 a1 σ0 Qk := by
  refine e_X2_readsEither_r3 (fun M hl hV hN C => ?_)
  subst hl
  subst hV
  obtain ⟨R9, H0⟩ : ∃ R9, F_X2_readsEither_r3 c0 a1 σ0 = R9 := ⟨_, rfl⟩
  have gc0 : hid _ := kdF_ge hc0
  have T : ∀ n : Nat, (∀ (x1 : Int32) (x2 : Int32) (σ : Sg), XI (mV M) σ → FX (fun id => id = c0 + 1) (fun id k => (id = c0 ∧ k = 4) ∨ (id = c0 ∧ k = 11)) σ0 σ → (3 ≤ x1.toInt) → (x1.toInt ≤ 3) → (0 ≤ x2.toInt) → (x2.toInt ≤ 100) → (LF_X2_readsEither_r3 c0 n x1 x2 σ = R9) → (101 - x2.toInt).toNat < n → PS M 12 [(0, .ref c0), (1, .int x1), (2, .int x2)] [] σ (0, 0)) := by
    intro n
    induction n with
    | zero => exact fun _ _ _ _ _ _ _ _ _ _ h8 => absurd h8 (Nat.not_lt_zero _)
    | succ n ih =>
      have ih12 := ih
      · intro x1 x2 σ mσ fσ lx1 ux1 lx2 ux2 H hmu
        replace H : LB_X2_readsEither_r3_12 c0 (LF_X2_readsEither_r3 c0 n) x1 x2 σ = R9 := H
        unfold LB_X2_readsEither_r3_12 at H
        have kr_c0_9 : gr σ c0 9 = some 50 := (FX_r fσ (show ¬ (c0 = c0 + 1) from by first | omega | (have ugc0 := un gc0; omega)) (show ¬ ((c0 = c0 ∧ 9 = 4) ∨ (c0 = c0 ∧ 9 = 11)) from by first | omega | (have ugc0 := un gc0; omega))).trans pre0
        have k_1 : (gi σ c0 10).toInt = (gi σ0 c0 10).toInt := congrArg Int32.toInt (FX_i fσ (show ¬ (c0 = c0 + 1) from by first | omega | (have ugc0 := un gc0; omega)) (show ¬ ((c0 = c0 ∧ 10 = 4) ∨ (c0 = c0 ∧ 10 = 11)) from by first | omega | (have ugc0 := un gc0; omega)))
        have t_2 := XI_c1 mσ (id := c0) (k := 10) (lim_F0_10 hc0)
        have t_3 := XI_c1 mσ (id := c0) (k := 11) (lim_F0_11 hc0)
        refine s_X2_readsEither_r3_12 C hN hc0 lc0 ?_
        refine ⟨?_, ?_⟩
        · intro q_4
          replace H := f_t q_4 H
          have b_5 : (100 : Int) ≤ x2.toInt := Int32.le_iff_toInt_le.mp q_4
          have z_6 : (1 : Int32).toInt = 1 := rfl
          exact h9ret (1 : Int32) σ mσ fσ (by omega) (by omega) (H0.trans H.symm)
        · intro q_4
          replace H := f_f q_4 H
          have b_7 : ¬ (100 : Int) ≤ x2.toInt := fun h9 => q_4 (Int32.le_iff_toInt_le.mpr h9)
          have z_8 : (124 : Int32).toInt = 124 := rfl
          refine kF_X2_takes hc0 lc0 mσ  (by omega) (by omega) (by first | with_reducible assumption | with_reducible rfl | omega | assumption | rfl) (fun r3 σ2 mσ2 cσ2 plσ2 phσ2 hσ2 => ?_)
          replace H := f_b hσ2 H
          have fσ2 : FX (fun id => id = c0 + 1) (fun id k => (id = c0 ∧ k = 4) ∨ (id = c0 ∧ k = 11)) σ0 σ2 := FX_tr fσ cσ2 (fun _ h9 => h9.elim) (fun x k (h9 : (x = c0 ∧ k = 11)) => (show (x = c0 + 1) ∨ ((x = c0 ∧ k = 4) ∨ (x = c0 ∧ k = 11)) from Or.inr (show (x = c0 ∧ k = 4) ∨ (x = c0 ∧ k = 11) from Or.inr (h9))))
          have k_9 : (gi σ2 c0 10).toInt = (gi σ c0 10).toInt := congrArg Int32.toInt (FX_i cσ2 id (show ¬ ((c0 = c0 ∧ 10 = 11)) from by first | omega | (have ugc0 := un gc0; omega)))
          have t_10 := XI_c1 mσ2 (id := c0) (k := 11) (lim_F0_11 hc0)
          have kr_11 : gr σ2 c0 9 = some 50 := (FX_r cσ2 id (show ¬ ((c0 = c0 ∧ 9 = 11)) from by first | omega | (have ugc0 := un gc0; omega))).trans kr_c0_9
          refine ⟨?_, ?_⟩
          · intro q_12
            replace H := f_t q_12 H
            have b_13 : r3.toInt = 0 := congrArg Int32.toInt q_12
            have z_14 : (1 : Int32).toInt = 1 := rfl
            exact h9ret (1 : Int32) σ2 mσ2 fσ2 (by omega) (by omega) (H0.trans H.symm)
          · intro q_12
            replace H := f_f q_12 H
            have b_15 : ¬ r3.toInt = 0 := fun h9 => q_12 (Int32.toInt_inj.mp h9)
            refine kF_X2_readsBoth_r3 hc0 lc0 mσ2  (by omega) (by omega) (by first | with_reducible assumption | with_reducible rfl | omega | assumption | rfl) (fun r6 σ5 mσ5 cσ5 plσ5 phσ5 hσ5 => ?_)
            replace H := f_b hσ5 H
            have fσ5 : FX (fun id => id = c0 + 1) (fun id k => (id = c0 ∧ k = 4) ∨ (id = c0 ∧ k = 11)) σ0 σ5 := FX_tr fσ2 cσ5 (fun x (h9 : x = c0 + 1) => (show x = c0 + 1 from h9)) (fun x k (h9 : (x = c0 ∧ k = 4) ∨ (x = c0 ∧ k = 11)) => (show (x = c0 + 1) ∨ ((x = c0 ∧ k = 4) ∨ (x = c0 ∧ k = 11)) from h9.elim (fun e9 => Or.inr (show (x = c0 ∧ k = 4) ∨ (x = c0 ∧ k = 11) from Or.inl (e9))) (fun h9 => Or.inr (show (x = c0 ∧ k = 4) ∨ (x = c0 ∧ k = 11) from Or.inr (h9)))))
            have k_16 : (gi σ5 c0 10).toInt = (gi σ2 c0 10).toInt := congrArg Int32.toInt (FX_i cσ5 (show ¬ (c0 = c0 + 1) from by first | omega | (have ugc0 := un gc0; omega)) (show ¬ ((c0 = c0 ∧ 10 = 4) ∨ (c0 = c0 ∧ 10 = 11)) from by first | omega | (have ugc0 := un gc0; omega)))
            have t_17 := XI_c1 mσ5 (id := c0) (k := 11) (lim_F0_11 hc0)
            have kr_18 : gr σ5 c0 9 = some 50 := (FX_r cσ5 (show ¬ (c0 = c0 + 1) from by first | omega | (have ugc0 := un gc0; omega)) (show ¬ ((c0 = c0 ∧ 9 = 4) ∨ (c0 = c0 ∧ 9 = 11)) from by first | omega | (have ugc0 := un gc0; omega))).trans kr_11
            refine ⟨?_, ?_⟩
            · intro q_19
              replace H := f_f q_19 H
              have b_20 : ¬ r6.toInt = 0 := fun h9 => q_19 (Int32.toInt_inj.mp h9)
              have z_21 : (-3 : Int32).toInt = -3 := rfl
              refine kF_X2_writes hc0 lc0 mσ5  (by omega) (by omega) (fun σ8 mσ8 cσ8 hσ8 => ?_)
              replace H := f_v hσ8 H
              have fσ8 : FX (fun id => id = c0 + 1) (fun id k => (id = c0 ∧ k = 4) ∨ (id = c0 ∧ k = 11)) σ0 σ8 := FX_tr fσ5 cσ8 (fun x (h9 : x = c0 + 1) => (show x = c0 + 1 from h9)) (fun x k (h9 : (x = c0 ∧ k = 4)) => (show (x = c0 + 1) ∨ ((x = c0 ∧ k = 4) ∨ (x = c0 ∧ k = 11)) from Or.inr (show (x = c0 ∧ k = 4) ∨ (x = c0 ∧ k = 11) from Or.inl (h9))))
              have k_22 : (gi σ8 c0 10).toInt = (gi σ5 c0 10).toInt := congrArg Int32.toInt (FX_i cσ8 (show ¬ (c0 = c0 + 1) from by first | omega | (have ugc0 := un gc0; omega)) (show ¬ ((c0 = c0 ∧ 10 = 4)) from by first | omega | (have ugc0 := un gc0; omega)))
              have k_23 : (gi σ8 c0 11).toInt = (gi σ5 c0 11).toInt := congrArg Int32.toInt (FX_i cσ8 (show ¬ (c0 = c0 + 1) from by first | omega | (have ugc0 := un gc0; omega)) (show ¬ ((c0 = c0 ∧ 11 = 4)) from by first | omega | (have ugc0 := un gc0; omega)))
              have kr_24 : gr σ8 c0 9 = some 50 := (FX_r cσ8 (show ¬ (c0 = c0 + 1) from by first | omega | (have ugc0 := un gc0; omega)) (show ¬ ((c0 = c0 ∧ 9 = 4)) from by first | omega | (have ugc0 := un gc0; omega))).trans kr_18
              intro v9 ev9
              replace H := f_l ev9 H
              have t_25 : (x2 + (1 : Int32)).toInt = x2.toInt + 1 := i_add (x := x2) (y := (1 : Int32)) (by show (_ : Int) ≤ x2.toInt + 1; omega) (by show x2.toInt + 1 ≤ (_ : Int); omega)
              have t_26 : v9.toInt = (x2 + (1 : Int32)).toInt := congrArg Int32.toInt ev9
              exact ih12 x1 v9 σ8 mσ8 fσ8 (by omega) (by omega) (by omega) (by omega) H (by omega)
            · intro q_19
              replace H := f_t q_19 H
              have b_27 : r6.toInt = 0 := congrArg Int32.toInt q_19
              have z_28 : (0 : Int32).toInt = 0 := rfl
              exact h9ret (0 : Int32) σ5 mσ5 fσ5 (by omega) (by omega) (H0.trans H.symm)
  have U12 := T 200
  have f0 : FX (fun id => id = c0 + 1) (fun id k => (id = c0 ∧ k = 4) ∨ (id = c0 ∧ k = 11)) σ0 σ0 := FX_rf
  have t_29 := XI_c1 m0 (id := c0) (k := 10) (lim_F0_10 hc0)
  have t_30 := XI_c1 m0 (id := c0) (k := 11) (lim_F0_11 hc0)
  have H := H0
  unfold F_X2_readsEither_r3 at H
  refine s_X2_readsEither_r3_0 C hN hc0 lc0 ?_
  refine kF_X2_readsBoth_r3 hc0 lc0 m0  (by omega) (by omega) (by first | with_reducible assumption | with_reducible rfl | omega | assumption | rfl) (fun r2 σ1 mσ1 cσ1 plσ1 phσ1 hσ1 => ?_)
  replace H := f_b hσ1 H
  have fσ1 : FX (fun id => id = c0 + 1) (fun id k => (id = c0 ∧ k = 4) ∨ (id = c0 ∧ k = 11)) σ0 σ1 := FX_tr f0 cσ1 (fun x (h9 : x = c0 + 1) => (show x = c0 + 1 from h9)) (fun x k (h9 : (x = c0 ∧ k = 4) ∨ (x = c0 ∧ k = 11)) => (show (x = c0 + 1) ∨ ((x = c0 ∧ k = 4) ∨ (x = c0 ∧ k = 11)) from h9.elim (fun e9 => Or.inr (show (x = c0 ∧ k = 4) ∨ (x = c0 ∧ k = 11) from Or.inl (e9))) (fun h9 => Or.inr (show (x = c0 ∧ k = 4) ∨ (x = c0 ∧ k = 11) from Or.inr (h9)))))
  have k_31 : (gi σ1 c0 10).toInt = (gi σ0 c0 10).toInt := congrArg Int32.toInt (FX_i cσ1 (show ¬ (c0 = c0 + 1) from by first | omega | (have ugc0 := un gc0; omega)) (show ¬ ((c0 = c0 ∧ 10 = 4) ∨ (c0 = c0 ∧ 10 = 11)) from by first | omega | (have ugc0 := un gc0; omega)))
  have t_32 := XI_c1 mσ1 (id := c0) (k := 11) (lim_F0_11 hc0)
  have kr_33 : gr σ1 c0 9 = some 50 := (FX_r cσ1 (show ¬ (c0 = c0 + 1) from by first | omega | (have ugc0 := un gc0; omega)) (show ¬ ((c0 = c0 ∧ 9 = 4) ∨ (c0 = c0 ∧ 9 = 11)) from by first | omega | (have ugc0 := un gc0; omega))).trans pre0
  refine ⟨?_, ?_⟩
  · intro q_34
    replace H := f_f q_34 H
    have b_35 : ¬ r2.toInt = 0 := fun h9 => q_34 (Int32.toInt_inj.mp h9)
    have z_36 : (0 : Int32).toInt = 0 := rfl
    exact U12 a1 (0 : Int32) σ1 mσ1 fσ1 (by omega) (by omega) (by omega) (by omega) H (by omega)
  · intro q_34
    replace H := f_t q_34 H
    have b_37 : r2.toInt = 0 := congrArg Int32.toInt q_34
    have z_38 : (0 : Int32).toInt = 0 := rfl
    exact h9ret (0 : Int32) σ1 mσ1 fσ1 (by omega) (by omega) (H0.trans H.symm)
set_option maxRecDepth 100000 in
set_option maxHeartbeats 4000000 in
theorem kF_X2_readsPart_r2 {l : Launch} {V : Vx} {c0 : Nat} {a1 : Int32} {σ0 : Sg} {Qk : Int32 → Sg → Prop} (hc0 : kd c0 = (12, 0)) (lc0 : c0 ∈ ids (V)) (m0 : XI V σ0) (l_a1 : 2 ≤ a1.toInt) (u_a1 : a1.toInt ≤ 2) (pre0 : gr σ0 c0 9 = some 50) (h9ret : ∀ (r : Int32) (σ' : Sg), XI V σ' → FX (fun id => id = c0 + 1) (fun id k => (id = c0 ∧ k = 4) ∨ (id = c0 ∧ k = 11)) σ0 σ' → (0 ≤ r.toInt) → (r.toInt ≤ 1) → (F_X2_readsPart_r2 c0 a1 σ0 = (r, σ')) → Qk r σ') : K_X2_readsPart_r2 l V c0 a1 σ0 Qk := by
  refine e_X2_readsPart_r2 (fun M hl hV hN C => ?_)
  subst hl
  subst hV
  obtain ⟨R9, H0⟩ : ∃ R9, F_X2_readsPart_r2 c0 a1 σ0 = R9 := ⟨_, rfl⟩
  have gc0 : hid _ := kdF_ge hc0
  have T : ∀ n : Nat, (∀ (x1 : Int32) (σ : Sg), XI (mV M) σ → FX (fun id => id = c0 + 1) (fun id k => (id = c0 ∧ k = 4) ∨ (id = c0 ∧ k = 11)) σ0 σ → (2 ≤ x1.toInt) → (x1.toInt ≤ 2) → (LF_X2_readsPart_r2 c0 n x1 σ = R9) → 1 < n → PS M 33 [(0, .ref c0), (1, .int x1)] [] σ (0, 0)) := by
    intro n
    induction n with
    | zero => exact fun _ _ _ _ _ _ _ h8 => absurd h8 (Nat.not_lt_zero _)
    | succ n ih =>
      have ih33 := ih
      · intro x1 σ mσ fσ lx1 ux1 H hmu
        replace H : LB_X2_readsPart_r2_33 c0 (LF_X2_readsPart_r2 c0 n) x1 σ = R9 := H
        unfold LB_X2_readsPart_r2_33 at H
        have kr_c0_9 : gr σ c0 9 = some 50 := (FX_r fσ (show ¬ (c0 = c0 + 1) from by first | omega | (have ugc0 := un gc0; omega)) (show ¬ ((c0 = c0 ∧ 9 = 4) ∨ (c0 = c0 ∧ 9 = 11)) from by first | omega | (have ugc0 := un gc0; omega))).trans pre0
        have k_1 : (gi σ c0 10).toInt = (gi σ0 c0 10).toInt := congrArg Int32.toInt (FX_i fσ (show ¬ (c0 = c0 + 1) from by first | omega | (have ugc0 := un gc0; omega)) (show ¬ ((c0 = c0 ∧ 10 = 4) ∨ (c0 = c0 ∧ 10 = 11)) from by first | omega | (have ugc0 := un gc0; omega)))
        have t_2 := XI_c1 mσ (id := c0) (k := 10) (lim_F0_10 hc0)
        have t_3 := XI_c1 mσ (id := c0) (k := 11) (lim_F0_11 hc0)
        refine s_X2_readsPart_r2_33 C hN hc0 lc0 ?_
        refine ⟨?_, ?_⟩
        · intro q_4
          replace H := f_t q_4 H
          have b_5 : (4 : Int) ≤ x1.toInt := Int32.le_iff_toInt_le.mp q_4
          refine kF_X2_readsTest hc0 lc0 mσ  (by first | with_reducible assumption | with_reducible rfl | omega | assumption | rfl) (fun r3 σ2 mσ2 cσ2 plσ2 phσ2 hσ2 => ?_)
          replace H := f_b hσ2 H
          have fσ2 : FX (fun id => id = c0 + 1) (fun id k => (id = c0 ∧ k = 4) ∨ (id = c0 ∧ k = 11)) σ0 σ2 := FX_tr fσ cσ2 (fun x (h9 : x = c0 + 1) => (show x = c0 + 1 from h9)) (fun x k (h9 : (x = c0 ∧ k = 4) ∨ (x = c0 ∧ k = 11)) => (show (x = c0 + 1) ∨ ((x = c0 ∧ k = 4) ∨ (x = c0 ∧ k = 11)) from h9.elim (fun e9 => Or.inr (show (x = c0 ∧ k = 4) ∨ (x = c0 ∧ k = 11) from Or.inl (e9))) (fun h9 => Or.inr (show (x = c0 ∧ k = 4) ∨ (x = c0 ∧ k = 11) from Or.inr (h9)))))
          have k_6 : (gi σ2 c0 10).toInt = (gi σ c0 10).toInt := congrArg Int32.toInt (FX_i cσ2 (show ¬ (c0 = c0 + 1) from by first | omega | (have ugc0 := un gc0; omega)) (show ¬ ((c0 = c0 ∧ 10 = 4) ∨ (c0 = c0 ∧ 10 = 11)) from by first | omega | (have ugc0 := un gc0; omega)))
          have t_7 := XI_c1 mσ2 (id := c0) (k := 11) (lim_F0_11 hc0)
          have kr_8 : gr σ2 c0 9 = some 50 := (FX_r cσ2 (show ¬ (c0 = c0 + 1) from by first | omega | (have ugc0 := un gc0; omega)) (show ¬ ((c0 = c0 ∧ 9 = 4) ∨ (c0 = c0 ∧ 9 = 11)) from by first | omega | (have ugc0 := un gc0; omega))).trans kr_c0_9
          refine ⟨i_bool (by omega) (by omega), ?_⟩
          exact h9ret r3 σ2 mσ2 fσ2 (by omega) (by omega) (H0.trans H.symm)
        · intro q_4
          replace H := f_f q_4 H
          have b_9 : ¬ (4 : Int) ≤ x1.toInt := fun h9 => q_4 (Int32.le_iff_toInt_le.mpr h9)
          have z_10 : (40 : Int32).toInt = 40 := rfl
          refine kF_X2_takes hc0 lc0 mσ  (by omega) (by omega) (by first | with_reducible assumption | with_reducible rfl | omega | assumption | rfl) (fun r5 σ4 mσ4 cσ4 plσ4 phσ4 hσ4 => ?_)
          replace H := f_b hσ4 H
          have fσ4 : FX (fun id => id = c0 + 1) (fun id k => (id = c0 ∧ k = 4) ∨ (id = c0 ∧ k = 11)) σ0 σ4 := FX_tr fσ cσ4 (fun _ h9 => h9.elim) (fun x k (h9 : (x = c0 ∧ k = 11)) => (show (x = c0 + 1) ∨ ((x = c0 ∧ k = 4) ∨ (x = c0 ∧ k = 11)) from Or.inr (show (x = c0 ∧ k = 4) ∨ (x = c0 ∧ k = 11) from Or.inr (h9))))
          have k_11 : (gi σ4 c0 10).toInt = (gi σ c0 10).toInt := congrArg Int32.toInt (FX_i cσ4 id (show ¬ ((c0 = c0 ∧ 10 = 11)) from by first | omega | (have ugc0 := un gc0; omega)))
          have t_12 := XI_c1 mσ4 (id := c0) (k := 11) (lim_F0_11 hc0)
          have kr_13 : gr σ4 c0 9 = some 50 := (FX_r cσ4 id (show ¬ ((c0 = c0 ∧ 9 = 11)) from by first | omega | (have ugc0 := un gc0; omega))).trans kr_c0_9
          refine ⟨?_, ?_⟩
          · intro q_14
            replace H := f_t q_14 H
            have b_15 : r5.toInt = 0 := congrArg Int32.toInt q_14
            refine kF_X2_readsTest hc0 lc0 mσ4  (by first | with_reducible assumption | with_reducible rfl | omega | assumption | rfl) (fun r8 σ7 mσ7 cσ7 plσ7 phσ7 hσ7 => ?_)
            replace H := f_b hσ7 H
            have fσ7 : FX (fun id => id = c0 + 1) (fun id k => (id = c0 ∧ k = 4) ∨ (id = c0 ∧ k = 11)) σ0 σ7 := FX_tr fσ4 cσ7 (fun x (h9 : x = c0 + 1) => (show x = c0 + 1 from h9)) (fun x k (h9 : (x = c0 ∧ k = 4) ∨ (x = c0 ∧ k = 11)) => (show (x = c0 + 1) ∨ ((x = c0 ∧ k = 4) ∨ (x = c0 ∧ k = 11)) from h9.elim (fun e9 => Or.inr (show (x = c0 ∧ k = 4) ∨ (x = c0 ∧ k = 11) from Or.inl (e9))) (fun h9 => Or.inr (show (x = c0 ∧ k = 4) ∨ (x = c0 ∧ k = 11) from Or.inr (h9)))))
            have k_16 : (gi σ7 c0 10).toInt = (gi σ4 c0 10).toInt := congrArg Int32.toInt (FX_i cσ7 (show ¬ (c0 = c0 + 1) from by first | omega | (have ugc0 := un gc0; omega)) (show ¬ ((c0 = c0 ∧ 10 = 4) ∨ (c0 = c0 ∧ 10 = 11)) from by first | omega | (have ugc0 := un gc0; omega)))
            have t_17 := XI_c1 mσ7 (id := c0) (k := 11) (lim_F0_11 hc0)
            have kr_18 : gr σ7 c0 9 = some 50 := (FX_r cσ7 (show ¬ (c0 = c0 + 1) from by first | omega | (have ugc0 := un gc0; omega)) (show ¬ ((c0 = c0 ∧ 9 = 4) ∨ (c0 = c0 ∧ 9 = 11)) from by first | omega | (have ugc0 := un gc0; omega))).trans kr_13
            refine ⟨i_bool (by omega) (by omega), ?_⟩
            exact h9ret r8 σ7 mσ7 fσ7 (by omega) (by omega) (H0.trans H.symm)
          · intro q_14
            replace H := f_f q_14 H
            have b_19 : ¬ r5.toInt = 0 := fun h9 => q_14 (Int32.toInt_inj.mp h9)
            have t_20 : (x1 + (1 : Int32)).toInt = x1.toInt + 1 := i_add (x := x1) (y := (1 : Int32)) (by show (_ : Int) ≤ x1.toInt + 1; omega) (by show x1.toInt + 1 ≤ (_ : Int); omega)
            refine kF_X2_readsEither_r3 hc0 lc0 mσ4  (by omega) (by omega) (by first | with_reducible assumption | with_reducible rfl | omega | assumption | rfl) (fun r10 σ9 mσ9 cσ9 plσ9 phσ9 hσ9 => ?_)
            replace H := f_b hσ9 H
            have fσ9 : FX (fun id => id = c0 + 1) (fun id k => (id = c0 ∧ k = 4) ∨ (id = c0 ∧ k = 11)) σ0 σ9 := FX_tr fσ4 cσ9 (fun x (h9 : x = c0 + 1) => (show x = c0 + 1 from h9)) (fun x k (h9 : (x = c0 ∧ k = 4) ∨ (x = c0 ∧ k = 11)) => (show (x = c0 + 1) ∨ ((x = c0 ∧ k = 4) ∨ (x = c0 ∧ k = 11)) from h9.elim (fun e9 => Or.inr (show (x = c0 ∧ k = 4) ∨ (x = c0 ∧ k = 11) from Or.inl (e9))) (fun h9 => Or.inr (show (x = c0 ∧ k = 4) ∨ (x = c0 ∧ k = 11) from Or.inr (h9)))))
            have k_21 : (gi σ9 c0 10).toInt = (gi σ4 c0 10).toInt := congrArg Int32.toInt (FX_i cσ9 (show ¬ (c0 = c0 + 1) from by first | omega | (have ugc0 := un gc0; omega)) (show ¬ ((c0 = c0 ∧ 10 = 4) ∨ (c0 = c0 ∧ 10 = 11)) from by first | omega | (have ugc0 := un gc0; omega)))
            have t_22 := XI_c1 mσ9 (id := c0) (k := 11) (lim_F0_11 hc0)
            have kr_23 : gr σ9 c0 9 = some 50 := (FX_r cσ9 (show ¬ (c0 = c0 + 1) from by first | omega | (have ugc0 := un gc0; omega)) (show ¬ ((c0 = c0 ∧ 9 = 4) ∨ (c0 = c0 ∧ 9 = 11)) from by first | omega | (have ugc0 := un gc0; omega))).trans kr_13
            refine ⟨?_, ?_⟩
            · intro q_24
              replace H := f_t q_24 H
              have b_25 : r10.toInt = 0 := congrArg Int32.toInt q_24
              have z_26 : (0 : Int32).toInt = 0 := rfl
              exact h9ret (0 : Int32) σ9 mσ9 fσ9 (by omega) (by omega) (H0.trans H.symm)
            · intro q_24
              replace H := f_f q_24 H
              have b_27 : ¬ r10.toInt = 0 := fun h9 => q_24 (Int32.toInt_inj.mp h9)
              have z_28 : (41 : Int32).toInt = 41 := rfl
              refine kF_X2_takes hc0 lc0 mσ9  (by omega) (by omega) (by first | with_reducible assumption | with_reducible rfl | omega | assumption | rfl) (fun r13 σ12 mσ12 cσ12 plσ12 phσ12 hσ12 => ?_)
              replace H := f_b hσ12 H
              have fσ12 : FX (fun id => id = c0 + 1) (fun id k => (id = c0 ∧ k = 4) ∨ (id = c0 ∧ k = 11)) σ0 σ12 := FX_tr fσ9 cσ12 (fun _ h9 => h9.elim) (fun x k (h9 : (x = c0 ∧ k = 11)) => (show (x = c0 + 1) ∨ ((x = c0 ∧ k = 4) ∨ (x = c0 ∧ k = 11)) from Or.inr (show (x = c0 ∧ k = 4) ∨ (x = c0 ∧ k = 11) from Or.inr (h9))))
              have k_29 : (gi σ12 c0 10).toInt = (gi σ9 c0 10).toInt := congrArg Int32.toInt (FX_i cσ12 id (show ¬ ((c0 = c0 ∧ 10 = 11)) from by first | omega | (have ugc0 := un gc0; omega)))
              have t_30 := XI_c1 mσ12 (id := c0) (k := 11) (lim_F0_11 hc0)
              have kr_31 : gr σ12 c0 9 = some 50 := (FX_r cσ12 id (show ¬ ((c0 = c0 ∧ 9 = 11)) from by first | omega | (have ugc0 := un gc0; omega))).trans kr_23
              refine ⟨?_, ?_⟩
              · intro q_32
                replace H := f_t q_32 H
                have b_33 : r13.toInt = 0 := congrArg Int32.toInt q_32
                have z_34 : (0 : Int32).toInt = 0 := rfl
                exact h9ret (0 : Int32) σ12 mσ12 fσ12 (by omega) (by omega) (H0.trans H.symm)
              · intro q_32
                replace H := f_f q_32 H
                have b_35 : ¬ r13.toInt = 0 := fun h9 => q_32 (Int32.toInt_inj.mp h9)
                have z_36 : (1 : Int32).toInt = 1 := rfl
                exact h9ret (1 : Int32) σ12 mσ12 fσ12 (by omega) (by omega) (H0.trans H.symm)
  have U33 := T 9
  have f0 : FX (fun id => id = c0 + 1) (fun id k => (id = c0 ∧ k = 4) ∨ (id = c0 ∧ k = 11)) σ0 σ0 := FX_rf
  have t_37 := XI_c1 m0 (id := c0) (k := 10) (lim_F0_10 hc0)
  have t_38 := XI_c1 m0 (id := c0) (k := 11) (lim_F0_11 hc0)
  have H := H0
  unfold F_X2_readsPart_r2 at H
  refine s_X2_readsPart_r2_0 C hN hc0 lc0 ?_
  refine ⟨?_, ?_⟩
  · intro q_39
    replace H := f_t q_39 H
    have b_40 : (4 : Int) ≤ a1.toInt := Int32.le_iff_toInt_le.mp q_39
    exact U33 a1 σ0 m0 f0 (by omega) (by omega) H (by omega)
  · intro q_39
    replace H := f_f q_39 H
    have b_41 : ¬ (4 : Int) ≤ a1.toInt := fun h9 => q_39 (Int32.le_iff_toInt_le.mpr h9)
    have z_42 : (33 : Int32).toInt = 33 := rfl
    refine kF_X2_takes hc0 lc0 m0  (by omega) (by omega) (by first | with_reducible assumption | with_reducible rfl | omega | assumption | rfl) (fun r3 σ2 mσ2 cσ2 plσ2 phσ2 hσ2 => ?_)
    replace H := f_b hσ2 H
    have fσ2 : FX (fun id => id = c0 + 1) (fun id k => (id = c0 ∧ k = 4) ∨ (id = c0 ∧ k = 11)) σ0 σ2 := FX_tr f0 cσ2 (fun _ h9 => h9.elim) (fun x k (h9 : (x = c0 ∧ k = 11)) => (show (x = c0 + 1) ∨ ((x = c0 ∧ k = 4) ∨ (x = c0 ∧ k = 11)) from Or.inr (show (x = c0 ∧ k = 4) ∨ (x = c0 ∧ k = 11) from Or.inr (h9))))
    have k_43 : (gi σ2 c0 10).toInt = (gi σ0 c0 10).toInt := congrArg Int32.toInt (FX_i cσ2 id (show ¬ ((c0 = c0 ∧ 10 = 11)) from by first | omega | (have ugc0 := un gc0; omega)))
    have t_44 := XI_c1 mσ2 (id := c0) (k := 11) (lim_F0_11 hc0)
    have kr_45 : gr σ2 c0 9 = some 50 := (FX_r cσ2 id (show ¬ ((c0 = c0 ∧ 9 = 11)) from by first | omega | (have ugc0 := un gc0; omega))).trans pre0
    refine ⟨?_, ?_⟩
    · intro q_46
      replace H := f_t q_46 H
      have b_47 : r3.toInt = 0 := congrArg Int32.toInt q_46
      exact U33 a1 σ2 mσ2 fσ2 (by omega) (by omega) H (by omega)
    · intro q_46
      replace H := f_f q_46 H
      have b_48 : ¬ r3.toInt = 0 := fun h9 => q_46 (Int32.toInt_inj.mp h9)
      have t_49 : (a1 + (1 : Int32)).toInt = a1.toInt + 1 := i_add (x := a1) (y := (1 : Int32)) (by show (_ : Int) ≤ a1.toInt + 1; omega) (by show a1.toInt + 1 ≤ (_ : Int); omega)
      refine kF_X2_readsPart_r3 hc0 lc0 mσ2  (by omega) (by omega) (by first | with_reducible assumption | with_reducible rfl | omega | assumption | rfl) (fun r6 σ5 mσ5 cσ5 plσ5 phσ5 hσ5 => ?_)
      replace H := f_b hσ5 H
      have fσ5 : FX (fun id => id = c0 + 1) (fun id k => (id = c0 ∧ k = 4) ∨ (id = c0 ∧ k = 11)) σ0 σ5 := FX_tr fσ2 cσ5 (fun x (h9 : x = c0 + 1) => (show x = c0 + 1 from h9)) (fun x k (h9 : (x = c0 ∧ k = 4) ∨ (x = c0 ∧ k = 11)) => (show (x = c0 + 1) ∨ ((x = c0 ∧ k = 4) ∨ (x = c0 ∧ k = 11)) from h9.elim (fun e9 => Or.inr (show (x = c0 ∧ k = 4) ∨ (x = c0 ∧ k = 11) from Or.inl (e9))) (fun h9 => Or.inr (show (x = c0 ∧ k = 4) ∨ (x = c0 ∧ k = 11) from Or.inr (h9)))))
      have k_50 : (gi σ5 c0 10).toInt = (gi σ2 c0 10).toInt := congrArg Int32.toInt (FX_i cσ5 (show ¬ (c0 = c0 + 1) from by first | omega | (have ugc0 := un gc0; omega)) (show ¬ ((c0 = c0 ∧ 10 = 4) ∨ (c0 = c0 ∧ 10 = 11)) from by first | omega | (have ugc0 := un gc0; omega)))
      have t_51 := XI_c1 mσ5 (id := c0) (k := 11) (lim_F0_11 hc0)
      have kr_52 : gr σ5 c0 9 = some 50 := (FX_r cσ5 (show ¬ (c0 = c0 + 1) from by first | omega | (have ugc0 := un gc0; omega)) (show ¬ ((c0 = c0 ∧ 9 = 4) ∨ (c0 = c0 ∧ 9 = 11)) from by first | omega | (have ugc0 := un gc0; omega))).trans kr_45
      refine ⟨?_, ?_⟩
      · intro q_53
        replace H := f_f q_53 H
        have b_54 : ¬ r6.toInt = 0 := fun h9 => q_53 (Int32.toInt_inj.mp h9)
        have z_55 : (-1 : Int32).toInt = -1 := rfl
        refine kF_X2_writes hc0 lc0 mσ5  (by omega) (by omega) (fun σ8 mσ8 cσ8 hσ8 => ?_)
        replace H := f_v hσ8 H
        have fσ8 : FX (fun id => id = c0 + 1) (fun id k => (id = c0 ∧ k = 4) ∨ (id = c0 ∧ k = 11)) σ0 σ8 := FX_tr fσ5 cσ8 (fun x (h9 : x = c0 + 1) => (show x = c0 + 1 from h9)) (fun x k (h9 : (x = c0 ∧ k = 4)) => (show (x = c0 + 1) ∨ ((x = c0 ∧ k = 4) ∨ (x = c0 ∧ k = 11)) from Or.inr (show (x = c0 ∧ k = 4) ∨ (x = c0 ∧ k = 11) from Or.inl (h9))))
        have k_56 : (gi σ8 c0 10).toInt = (gi σ5 c0 10).toInt := congrArg Int32.toInt (FX_i cσ8 (show ¬ (c0 = c0 + 1) from by first | omega | (have ugc0 := un gc0; omega)) (show ¬ ((c0 = c0 ∧ 10 = 4)) from by first | omega | (have ugc0 := un gc0; omega)))
        have k_57 : (gi σ8 c0 11).toInt = (gi σ5 c0 11).toInt := congrArg Int32.toInt (FX_i cσ8 (show ¬ (c0 = c0 + 1) from by first | omega | (have ugc0 := un gc0; omega)) (show ¬ ((c0 = c0 ∧ 11 = 4)) from by first | omega | (have ugc0 := un gc0; omega)))
        have kr_58 : gr σ8 c0 9 = some 50 := (FX_r cσ8 (show ¬ (c0 = c0 + 1) from by first | omega | (have ugc0 := un gc0; omega)) (show ¬ ((c0 = c0 ∧ 9 = 4)) from by first | omega | (have ugc0 := un gc0; omega))).trans kr_52
        have z_59 : (1 : Int32).toInt = 1 := rfl
        exact h9ret (1 : Int32) σ8 mσ8 fσ8 (by omega) (by omega) (H0.trans H.symm)
      · intro q_53
        replace H := f_t q_53 H
        have b_60 : r6.toInt = 0 := congrArg Int32.toInt q_53
        have z_61 : (0 : Int32).toInt = 0 := rfl
        exact h9ret (0 : Int32) σ5 mσ5 fσ5 (by omega) (by omega) (H0.trans H.symm)
set_option maxRecDepth 100000 in
set_option maxHeartbeats 4000000 in
theorem kF_X2_readsBoth_r2 {l : Launch} {V : Vx} {c0 : Nat} {a1 : Int32} {σ0 : Sg} {Qk : Int32 → Sg → Prop} (hc0 : kd c0 = (12, 0)) (lc0 : c0 ∈ ids (V)) (m0 : XI V σ0) (l_a1 : 2 ≤ a1.toInt) (u_a1 : a1.toInt ≤ 2) (pre0 : gr σ0 c0 9 = some 50) (h9ret : ∀ (r : Int32) (σ' : Sg), XI V σ' → FX (fun id => id = c0 + 1) (fun id k => (id = c0 ∧ k = 4) ∨ (id = c0 ∧ k = 11)) σ0 σ' → (0 ≤ r.toInt) → (r.toInt ≤ 1) → (F_X2_readsBoth_r2 c0 a1 σ0 = (r, σ')) → Qk r σ') : K_X2_readsBoth_r2 l V c0 a1 σ0 Qk := by
  refine e_X2_readsBoth_r2 (fun M hl hV hN C => ?_)
  subst hl
  subst hV
  obtain ⟨R9, H0⟩ : ∃ R9, F_X2_readsBoth_r2 c0 a1 σ0 = R9 := ⟨_, rfl⟩
  have gc0 : hid _ := kdF_ge hc0
  have T : ∀ n : Nat, (∀ (x1 : Int32) (x2 : Int32) (σ : Sg), XI (mV M) σ → FX (fun id => id = c0 + 1) (fun id k => (id = c0 ∧ k = 4) ∨ (id = c0 ∧ k = 11)) σ0 σ → (2 ≤ x1.toInt) → (x1.toInt ≤ 2) → (0 ≤ x2.toInt) → (x2.toInt ≤ 100) → (LF_X2_readsBoth_r2 c0 n x1 x2 σ = R9) → (101 - x2.toInt).toNat < n → PS M 12 [(0, .ref c0), (1, .int x1), (2, .int x2)] [] σ (0, 0)) := by
    intro n
    induction n with
    | zero => exact fun _ _ _ _ _ _ _ _ _ _ h8 => absurd h8 (Nat.not_lt_zero _)
    | succ n ih =>
      have ih12 := ih
      · intro x1 x2 σ mσ fσ lx1 ux1 lx2 ux2 H hmu
        replace H : LB_X2_readsBoth_r2_12 c0 (LF_X2_readsBoth_r2 c0 n) x1 x2 σ = R9 := H
        unfold LB_X2_readsBoth_r2_12 at H
        have kr_c0_9 : gr σ c0 9 = some 50 := (FX_r fσ (show ¬ (c0 = c0 + 1) from by first | omega | (have ugc0 := un gc0; omega)) (show ¬ ((c0 = c0 ∧ 9 = 4) ∨ (c0 = c0 ∧ 9 = 11)) from by first | omega | (have ugc0 := un gc0; omega))).trans pre0
        have k_1 : (gi σ c0 10).toInt = (gi σ0 c0 10).toInt := congrArg Int32.toInt (FX_i fσ (show ¬ (c0 = c0 + 1) from by first | omega | (have ugc0 := un gc0; omega)) (show ¬ ((c0 = c0 ∧ 10 = 4) ∨ (c0 = c0 ∧ 10 = 11)) from by first | omega | (have ugc0 := un gc0; omega)))
        have t_2 := XI_c1 mσ (id := c0) (k := 10) (lim_F0_10 hc0)
        have t_3 := XI_c1 mσ (id := c0) (k := 11) (lim_F0_11 hc0)
        refine s_X2_readsBoth_r2_12 C hN hc0 lc0 ?_
        refine ⟨?_, ?_⟩
        · intro q_4
          replace H := f_t q_4 H
          have b_5 : (100 : Int) ≤ x2.toInt := Int32.le_iff_toInt_le.mp q_4
          have z_6 : (1 : Int32).toInt = 1 := rfl
          exact h9ret (1 : Int32) σ mσ fσ (by omega) (by omega) (H0.trans H.symm)
        · intro q_4
          replace H := f_f q_4 H
          have b_7 : ¬ (100 : Int) ≤ x2.toInt := fun h9 => q_4 (Int32.le_iff_toInt_le.mpr h9)
          have z_8 : (38 : Int32).toInt = 38 := rfl
          refine kF_X2_takes hc0 lc0 mσ  (by omega) (by omega) (by first | with_reducible assumption | with_reducible rfl | omega | assumption | rfl) (fun r3 σ2 mσ2 cσ2 plσ2 phσ2 hσ2 => ?_)
          replace H := f_b hσ2 H
          have fσ2 : FX (fun id => id = c0 + 1) (fun id k => (id = c0 ∧ k = 4) ∨ (id = c0 ∧ k = 11)) σ0 σ2 := FX_tr fσ cσ2 (fun _ h9 => h9.elim) (fun x k (h9 : (x = c0 ∧ k = 11)) => (show (x = c0 + 1) ∨ ((x = c0 ∧ k = 4) ∨ (x = c0 ∧ k = 11)) from Or.inr (show (x = c0 ∧ k = 4) ∨ (x = c0 ∧ k = 11) from Or.inr (h9))))
          have k_9 : (gi σ2 c0 10).toInt = (gi σ c0 10).toInt := congrArg Int32.toInt (FX_i cσ2 id (show ¬ ((c0 = c0 ∧ 10 = 11)) from by first | omega | (have ugc0 := un gc0; omega)))
          have t_10 := XI_c1 mσ2 (id := c0) (k := 11) (lim_F0_11 hc0)
          have kr_11 : gr σ2 c0 9 = some 50 := (FX_r cσ2 id (show ¬ ((c0 = c0 ∧ 9 = 11)) from by first | omega | (have ugc0 := un gc0; omega))).trans kr_c0_9
          refine ⟨?_, ?_⟩
          · intro q_12
            replace H := f_t q_12 H
            have b_13 : r3.toInt = 0 := congrArg Int32.toInt q_12
            have z_14 : (1 : Int32).toInt = 1 := rfl
            exact h9ret (1 : Int32) σ2 mσ2 fσ2 (by omega) (by omega) (H0.trans H.symm)
          · intro q_12
            replace H := f_f q_12 H
            have b_15 : ¬ r3.toInt = 0 := fun h9 => q_12 (Int32.toInt_inj.mp h9)
            refine kF_X2_readsPart_r2 hc0 lc0 mσ2  (by omega) (by omega) (by first | with_reducible assumption | with_reducible rfl | omega | assumption | rfl) (fun r6 σ5 mσ5 cσ5 plσ5 phσ5 hσ5 => ?_)
            replace H := f_b hσ5 H
            have fσ5 : FX (fun id => id = c0 + 1) (fun id k => (id = c0 ∧ k = 4) ∨ (id = c0 ∧ k = 11)) σ0 σ5 := FX_tr fσ2 cσ5 (fun x (h9 : x = c0 + 1) => (show x = c0 + 1 from h9)) (fun x k (h9 : (x = c0 ∧ k = 4) ∨ (x = c0 ∧ k = 11)) => (show (x = c0 + 1) ∨ ((x = c0 ∧ k = 4) ∨ (x = c0 ∧ k = 11)) from h9.elim (fun e9 => Or.inr (show (x = c0 ∧ k = 4) ∨ (x = c0 ∧ k = 11) from Or.inl (e9))) (fun h9 => Or.inr (show (x = c0 ∧ k = 4) ∨ (x = c0 ∧ k = 11) from Or.inr (h9)))))
            have k_16 : (gi σ5 c0 10).toInt = (gi σ2 c0 10).toInt := congrArg Int32.toInt (FX_i cσ5 (show ¬ (c0 = c0 + 1) from by first | omega | (have ugc0 := un gc0; omega)) (show ¬ ((c0 = c0 ∧ 10 = 4) ∨ (c0 = c0 ∧ 10 = 11)) from by first | omega | (have ugc0 := un gc0; omega)))
            have t_17 := XI_c1 mσ5 (id := c0) (k := 11) (lim_F0_11 hc0)
            have kr_18 : gr σ5 c0 9 = some 50 := (FX_r cσ5 (show ¬ (c0 = c0 + 1) from by first | omega | (have ugc0 := un gc0; omega)) (show ¬ ((c0 = c0 ∧ 9 = 4) ∨ (c0 = c0 ∧ 9 = 11)) from by first | omega | (have ugc0 := un gc0; omega))).trans kr_11
            refine ⟨?_, ?_⟩
            · intro q_19
              replace H := f_f q_19 H
              have b_20 : ¬ r6.toInt = 0 := fun h9 => q_19 (Int32.toInt_inj.mp h9)
              have z_21 : (-2 : Int32).toInt = -2 := rfl
              refine kF_X2_writes hc0 lc0 mσ5  (by omega) (by omega) (fun σ8 mσ8 cσ8 hσ8 => ?_)
              replace H := f_v hσ8 H
              have fσ8 : FX (fun id => id = c0 + 1) (fun id k => (id = c0 ∧ k = 4) ∨ (id = c0 ∧ k = 11)) σ0 σ8 := FX_tr fσ5 cσ8 (fun x (h9 : x = c0 + 1) => (show x = c0 + 1 from h9)) (fun x k (h9 : (x = c0 ∧ k = 4)) => (show (x = c0 + 1) ∨ ((x = c0 ∧ k = 4) ∨ (x = c0 ∧ k = 11)) from Or.inr (show (x = c0 ∧ k = 4) ∨ (x = c0 ∧ k = 11) from Or.inl (h9))))
              have k_22 : (gi σ8 c0 10).toInt = (gi σ5 c0 10).toInt := congrArg Int32.toInt (FX_i cσ8 (show ¬ (c0 = c0 + 1) from by first | omega | (have ugc0 := un gc0; omega)) (show ¬ ((c0 = c0 ∧ 10 = 4)) from by first | omega | (have ugc0 := un gc0; omega)))
              have k_23 : (gi σ8 c0 11).toInt = (gi σ5 c0 11).toInt := congrArg Int32.toInt (FX_i cσ8 (show ¬ (c0 = c0 + 1) from by first | omega | (have ugc0 := un gc0; omega)) (show ¬ ((c0 = c0 ∧ 11 = 4)) from by first | omega | (have ugc0 := un gc0; omega)))
              have kr_24 : gr σ8 c0 9 = some 50 := (FX_r cσ8 (show ¬ (c0 = c0 + 1) from by first | omega | (have ugc0 := un gc0; omega)) (show ¬ ((c0 = c0 ∧ 9 = 4)) from by first | omega | (have ugc0 := un gc0; omega))).trans kr_18
              intro v9 ev9
              replace H := f_l ev9 H
              have t_25 : (x2 + (1 : Int32)).toInt = x2.toInt + 1 := i_add (x := x2) (y := (1 : Int32)) (by show (_ : Int) ≤ x2.toInt + 1; omega) (by show x2.toInt + 1 ≤ (_ : Int); omega)
              have t_26 : v9.toInt = (x2 + (1 : Int32)).toInt := congrArg Int32.toInt ev9
              exact ih12 x1 v9 σ8 mσ8 fσ8 (by omega) (by omega) (by omega) (by omega) H (by omega)
            · intro q_19
              replace H := f_t q_19 H
              have b_27 : r6.toInt = 0 := congrArg Int32.toInt q_19
              have z_28 : (0 : Int32).toInt = 0 := rfl
              exact h9ret (0 : Int32) σ5 mσ5 fσ5 (by omega) (by omega) (H0.trans H.symm)
  have U12 := T 200
  have f0 : FX (fun id => id = c0 + 1) (fun id k => (id = c0 ∧ k = 4) ∨ (id = c0 ∧ k = 11)) σ0 σ0 := FX_rf
  have t_29 := XI_c1 m0 (id := c0) (k := 10) (lim_F0_10 hc0)
  have t_30 := XI_c1 m0 (id := c0) (k := 11) (lim_F0_11 hc0)
  have H := H0
  unfold F_X2_readsBoth_r2 at H
  refine s_X2_readsBoth_r2_0 C hN hc0 lc0 ?_
  refine kF_X2_readsPart_r2 hc0 lc0 m0  (by omega) (by omega) (by first | with_reducible assumption | with_reducible rfl | omega | assumption | rfl) (fun r2 σ1 mσ1 cσ1 plσ1 phσ1 hσ1 => ?_)
  replace H := f_b hσ1 H
  have fσ1 : FX (fun id => id = c0 + 1) (fun id k => (id = c0 ∧ k = 4) ∨ (id = c0 ∧ k = 11)) σ0 σ1 := FX_tr f0 cσ1 (fun x (h9 : x = c0 + 1) => (show x = c0 + 1 from h9)) (fun x k (h9 : (x = c0 ∧ k = 4) ∨ (x = c0 ∧ k = 11)) => (show (x = c0 + 1) ∨ ((x = c0 ∧ k = 4) ∨ (x = c0 ∧ k = 11)) from h9.elim (fun e9 => Or.inr (show (x = c0 ∧ k = 4) ∨ (x = c0 ∧ k = 11) from Or.inl (e9))) (fun h9 => Or.inr (show (x = c0 ∧ k = 4) ∨ (x = c0 ∧ k = 11) from Or.inr (h9)))))
  have k_31 : (gi σ1 c0 10).toInt = (gi σ0 c0 10).toInt := congrArg Int32.toInt (FX_i cσ1 (show ¬ (c0 = c0 + 1) from by first | omega | (have ugc0 := un gc0; omega)) (show ¬ ((c0 = c0 ∧ 10 = 4) ∨ (c0 = c0 ∧ 10 = 11)) from by first | omega | (have ugc0 := un gc0; omega)))
  have t_32 := XI_c1 mσ1 (id := c0) (k := 11) (lim_F0_11 hc0)
  have kr_33 : gr σ1 c0 9 = some 50 := (FX_r cσ1 (show ¬ (c0 = c0 + 1) from by first | omega | (have ugc0 := un gc0; omega)) (show ¬ ((c0 = c0 ∧ 9 = 4) ∨ (c0 = c0 ∧ 9 = 11)) from by first | omega | (have ugc0 := un gc0; omega))).trans pre0
  refine ⟨?_, ?_⟩
  · intro q_34
    replace H := f_f q_34 H
    have b_35 : ¬ r2.toInt = 0 := fun h9 => q_34 (Int32.toInt_inj.mp h9)
    have z_36 : (0 : Int32).toInt = 0 := rfl
    exact U12 a1 (0 : Int32) σ1 mσ1 fσ1 (by omega) (by omega) (by omega) (by omega) H (by omega)
  · intro q_34
    replace H := f_t q_34 H
    have b_37 : r2.toInt = 0 := congrArg Int32.toInt q_34
    have z_38 : (0 : Int32).toInt = 0 := rfl
    exact h9ret (0 : Int32) σ1 mσ1 fσ1 (by omega) (by omega) (H0.trans H.symm)
set_option maxRecDepth 100000 in
set_option maxHeartbeats 4000000 in
theorem kF_X2_readsEither_r2 {l : Launch} {V : Vx} {c0 : Nat} {a1 : Int32} {σ0 : Sg} {Qk : Int32 → Sg → Prop} (hc0 : kd c0 = (12, 0)) (lc0 : c0 ∈ ids (V)) (m0 : XI V σ0) (l_a1 : 2 ≤ a1.toInt) (u_a1 : a1.toInt ≤ 2) (pre0 : gr σ0 c0 9 = some 50) (h9ret : ∀ (r : Int32) (σ' : Sg), XI V σ' → FX (fun id => id = c0 + 1) (fun id k => (id = c0 ∧ k = 4) ∨ (id = c0 ∧ k = 11)) σ0 σ' → (0 ≤ r.toInt) → (r.toInt ≤ 1) → (F_X2_readsEither_r2 c0 a1 σ0 = (r, σ')) → Qk r σ') : K_X2_readsEither_r2 l V c0 a1 σ0 Qk := by
  refine e_X2_readsEither_r2 (fun M hl hV hN C => ?_)
  subst hl
  subst hV
  obtain ⟨R9, H0⟩ : ∃ R9, F_X2_readsEither_r2 c0 a1 σ0 = R9 := ⟨_, rfl⟩
  have gc0 : hid _ := kdF_ge hc0
  have T : ∀ n : Nat, (∀ (x1 : Int32) (x2 : Int32) (σ : Sg), XI (mV M) σ → FX (fun id => id = c0 + 1) (fun id k => (id = c0 ∧ k = 4) ∨ (id = c0 ∧ k = 11)) σ0 σ → (2 ≤ x1.toInt) → (x1.toInt ≤ 2) → (0 ≤ x2.toInt) → (x2.toInt ≤ 100) → (LF_X2_readsEither_r2 c0 n x1 x2 σ = R9) → (101 - x2.toInt).toNat < n → PS M 12 [(0, .ref c0), (1, .int x1), (2, .int x2)] [] σ (0, 0)) := by
    intro n
    induction n with
    | zero => exact fun _ _ _ _ _ _ _ _ _ _ h8 => absurd h8 (Nat.not_lt_zero _)
    | succ n ih =>
      have ih12 := ih
      · intro x1 x2 σ mσ fσ lx1 ux1 lx2 ux2 H hmu
        replace H : LB_X2_readsEither_r2_12 c0 (LF_X2_readsEither_r2 c0 n) x1 x2 σ = R9 := H
        unfold LB_X2_readsEither_r2_12 at H
        have kr_c0_9 : gr σ c0 9 = some 50 := (FX_r fσ (show ¬ (c0 = c0 + 1) from by first | omega | (have ugc0 := un gc0; omega)) (show ¬ ((c0 = c0 ∧ 9 = 4) ∨ (c0 = c0 ∧ 9 = 11)) from by first | omega | (have ugc0 := un gc0; omega))).trans pre0
        have k_1 : (gi σ c0 10).toInt = (gi σ0 c0 10).toInt := congrArg Int32.toInt (FX_i fσ (show ¬ (c0 = c0 + 1) from by first | omega | (have ugc0 := un gc0; omega)) (show ¬ ((c0 = c0 ∧ 10 = 4) ∨ (c0 = c0 ∧ 10 = 11)) from by first | omega | (have ugc0 := un gc0; omega)))
        have t_2 := XI_c1 mσ (id := c0) (k := 10) (lim_F0_10 hc0)
        have t_3 := XI_c1 mσ (id := c0) (k := 11) (lim_F0_11 hc0)
        refine s_X2_readsEither_r2_12 C hN hc0 lc0 ?_
        refine ⟨?_, ?_⟩
        · intro q_4
          replace H := f_t q_4 H
          have b_5 : (100 : Int) ≤ x2.toInt := Int32.le_iff_toInt_le.mp q_4
          have z_6 : (1 : Int32).toInt = 1 := rfl
          exact h9ret (1 : Int32) σ mσ fσ (by omega) (by omega) (H0.trans H.symm)
        · intro q_4
          replace H := f_f q_4 H
          have b_7 : ¬ (100 : Int) ≤ x2.toInt := fun h9 => q_4 (Int32.le_iff_toInt_le.mpr h9)
          have z_8 : (124 : Int32).toInt = 124 := rfl
          refine kF_X2_takes hc0 lc0 mσ  (by omega) (by omega) (by first | with_reducible assumption | with_reducible rfl | omega | assumption | rfl) (fun r3 σ2 mσ2 cσ2 plσ2 phσ2 hσ2 => ?_)
          replace H := f_b hσ2 H
          have fσ2 : FX (fun id => id = c0 + 1) (fun id k => (id = c0 ∧ k = 4) ∨ (id = c0 ∧ k = 11)) σ0 σ2 := FX_tr fσ cσ2 (fun _ h9 => h9.elim) (fun x k (h9 : (x = c0 ∧ k = 11)) => (show (x = c0 + 1) ∨ ((x = c0 ∧ k = 4) ∨ (x = c0 ∧ k = 11)) from Or.inr (show (x = c0 ∧ k = 4) ∨ (x = c0 ∧ k = 11) from Or.inr (h9))))
          have k_9 : (gi σ2 c0 10).toInt = (gi σ c0 10).toInt := congrArg Int32.toInt (FX_i cσ2 id (show ¬ ((c0 = c0 ∧ 10 = 11)) from by first | omega | (have ugc0 := un gc0; omega)))
          have t_10 := XI_c1 mσ2 (id := c0) (k := 11) (lim_F0_11 hc0)
          have kr_11 : gr σ2 c0 9 = some 50 := (FX_r cσ2 id (show ¬ ((c0 = c0 ∧ 9 = 11)) from by first | omega | (have ugc0 := un gc0; omega))).trans kr_c0_9
          refine ⟨?_, ?_⟩
          · intro q_12
            replace H := f_t q_12 H
            have b_13 : r3.toInt = 0 := congrArg Int32.toInt q_12
            have z_14 : (1 : Int32).toInt = 1 := rfl
            exact h9ret (1 : Int32) σ2 mσ2 fσ2 (by omega) (by omega) (H0.trans H.symm)
          · intro q_12
            replace H := f_f q_12 H
            have b_15 : ¬ r3.toInt = 0 := fun h9 => q_12 (Int32.toInt_inj.mp h9)
            refine kF_X2_readsBoth_r2 hc0 lc0 mσ2  (by omega) (by omega) (by first | with_reducible assumption | with_reducible rfl | omega | assumption | rfl) (fun r6 σ5 mσ5 cσ5 plσ5 phσ5 hσ5 => ?_)
            replace H := f_b hσ5 H
            have fσ5 : FX (fun id => id = c0 + 1) (fun id k => (id = c0 ∧ k = 4) ∨ (id = c0 ∧ k = 11)) σ0 σ5 := FX_tr fσ2 cσ5 (fun x (h9 : x = c0 + 1) => (show x = c0 + 1 from h9)) (fun x k (h9 : (x = c0 ∧ k = 4) ∨ (x = c0 ∧ k = 11)) => (show (x = c0 + 1) ∨ ((x = c0 ∧ k = 4) ∨ (x = c0 ∧ k = 11)) from h9.elim (fun e9 => Or.inr (show (x = c0 ∧ k = 4) ∨ (x = c0 ∧ k = 11) from Or.inl (e9))) (fun h9 => Or.inr (show (x = c0 ∧ k = 4) ∨ (x = c0 ∧ k = 11) from Or.inr (h9)))))
            have k_16 : (gi σ5 c0 10).toInt = (gi σ2 c0 10).toInt := congrArg Int32.toInt (FX_i cσ5 (show ¬ (c0 = c0 + 1) from by first | omega | (have ugc0 := un gc0; omega)) (show ¬ ((c0 = c0 ∧ 10 = 4) ∨ (c0 = c0 ∧ 10 = 11)) from by first | omega | (have ugc0 := un gc0; omega)))
            have t_17 := XI_c1 mσ5 (id := c0) (k := 11) (lim_F0_11 hc0)
            have kr_18 : gr σ5 c0 9 = some 50 := (FX_r cσ5 (show ¬ (c0 = c0 + 1) from by first | omega | (have ugc0 := un gc0; omega)) (show ¬ ((c0 = c0 ∧ 9 = 4) ∨ (c0 = c0 ∧ 9 = 11)) from by first | omega | (have ugc0 := un gc0; omega))).trans kr_11
            refine ⟨?_, ?_⟩
            · intro q_19
              replace H := f_f q_19 H
              have b_20 : ¬ r6.toInt = 0 := fun h9 => q_19 (Int32.toInt_inj.mp h9)
              have z_21 : (-3 : Int32).toInt = -3 := rfl
              refine kF_X2_writes hc0 lc0 mσ5  (by omega) (by omega) (fun σ8 mσ8 cσ8 hσ8 => ?_)
              replace H := f_v hσ8 H
              have fσ8 : FX (fun id => id = c0 + 1) (fun id k => (id = c0 ∧ k = 4) ∨ (id = c0 ∧ k = 11)) σ0 σ8 := FX_tr fσ5 cσ8 (fun x (h9 : x = c0 + 1) => (show x = c0 + 1 from h9)) (fun x k (h9 : (x = c0 ∧ k = 4)) => (show (x = c0 + 1) ∨ ((x = c0 ∧ k = 4) ∨ (x = c0 ∧ k = 11)) from Or.inr (show (x = c0 ∧ k = 4) ∨ (x = c0 ∧ k = 11) from Or.inl (h9))))
              have k_22 : (gi σ8 c0 10).toInt = (gi σ5 c0 10).toInt := congrArg Int32.toInt (FX_i cσ8 (show ¬ (c0 = c0 + 1) from by first | omega | (have ugc0 := un gc0; omega)) (show ¬ ((c0 = c0 ∧ 10 = 4)) from by first | omega | (have ugc0 := un gc0; omega)))
              have k_23 : (gi σ8 c0 11).toInt = (gi σ5 c0 11).toInt := congrArg Int32.toInt (FX_i cσ8 (show ¬ (c0 = c0 + 1) from by first | omega | (have ugc0 := un gc0; omega)) (show ¬ ((c0 = c0 ∧ 11 = 4)) from by first | omega | (have ugc0 := un gc0; omega)))
              have kr_24 : gr σ8 c0 9 = some 50 := (FX_r cσ8 (show ¬ (c0 = c0 + 1) from by first | omega | (have ugc0 := un gc0; omega)) (show ¬ ((c0 = c0 ∧ 9 = 4)) from by first | omega | (have ugc0 := un gc0; omega))).trans kr_18
              intro v9 ev9
              replace H := f_l ev9 H
              have t_25 : (x2 + (1 : Int32)).toInt = x2.toInt + 1 := i_add (x := x2) (y := (1 : Int32)) (by show (_ : Int) ≤ x2.toInt + 1; omega) (by show x2.toInt + 1 ≤ (_ : Int); omega)
              have t_26 : v9.toInt = (x2 + (1 : Int32)).toInt := congrArg Int32.toInt ev9
              exact ih12 x1 v9 σ8 mσ8 fσ8 (by omega) (by omega) (by omega) (by omega) H (by omega)
            · intro q_19
              replace H := f_t q_19 H
              have b_27 : r6.toInt = 0 := congrArg Int32.toInt q_19
              have z_28 : (0 : Int32).toInt = 0 := rfl
              exact h9ret (0 : Int32) σ5 mσ5 fσ5 (by omega) (by omega) (H0.trans H.symm)
  have U12 := T 200
  have f0 : FX (fun id => id = c0 + 1) (fun id k => (id = c0 ∧ k = 4) ∨ (id = c0 ∧ k = 11)) σ0 σ0 := FX_rf
  have t_29 := XI_c1 m0 (id := c0) (k := 10) (lim_F0_10 hc0)
  have t_30 := XI_c1 m0 (id := c0) (k := 11) (lim_F0_11 hc0)
  have H := H0
  unfold F_X2_readsEither_r2 at H
  refine s_X2_readsEither_r2_0 C hN hc0 lc0 ?_
  refine kF_X2_readsBoth_r2 hc0 lc0 m0  (by omega) (by omega) (by first | with_reducible assumption | with_reducible rfl | omega | assumption | rfl) (fun r2 σ1 mσ1 cσ1 plσ1 phσ1 hσ1 => ?_)
  replace H := f_b hσ1 H
  have fσ1 : FX (fun id => id = c0 + 1) (fun id k => (id = c0 ∧ k = 4) ∨ (id = c0 ∧ k = 11)) σ0 σ1 := FX_tr f0 cσ1 (fun x (h9 : x = c0 + 1) => (show x = c0 + 1 from h9)) (fun x k (h9 : (x = c0 ∧ k = 4) ∨ (x = c0 ∧ k = 11)) => (show (x = c0 + 1) ∨ ((x = c0 ∧ k = 4) ∨ (x = c0 ∧ k = 11)) from h9.elim (fun e9 => Or.inr (show (x = c0 ∧ k = 4) ∨ (x = c0 ∧ k = 11) from Or.inl (e9))) (fun h9 => Or.inr (show (x = c0 ∧ k = 4) ∨ (x = c0 ∧ k = 11) from Or.inr (h9)))))
  have k_31 : (gi σ1 c0 10).toInt = (gi σ0 c0 10).toInt := congrArg Int32.toInt (FX_i cσ1 (show ¬ (c0 = c0 + 1) from by first | omega | (have ugc0 := un gc0; omega)) (show ¬ ((c0 = c0 ∧ 10 = 4) ∨ (c0 = c0 ∧ 10 = 11)) from by first | omega | (have ugc0 := un gc0; omega)))
  have t_32 := XI_c1 mσ1 (id := c0) (k := 11) (lim_F0_11 hc0)
  have kr_33 : gr σ1 c0 9 = some 50 := (FX_r cσ1 (show ¬ (c0 = c0 + 1) from by first | omega | (have ugc0 := un gc0; omega)) (show ¬ ((c0 = c0 ∧ 9 = 4) ∨ (c0 = c0 ∧ 9 = 11)) from by first | omega | (have ugc0 := un gc0; omega))).trans pre0
  refine ⟨?_, ?_⟩
  · intro q_34
    replace H := f_f q_34 H
    have b_35 : ¬ r2.toInt = 0 := fun h9 => q_34 (Int32.toInt_inj.mp h9)
    have z_36 : (0 : Int32).toInt = 0 := rfl
    exact U12 a1 (0 : Int32) σ1 mσ1 fσ1 (by omega) (by omega) (by omega) (by omega) H (by omega)
  · intro q_34
    replace H := f_t q_34 H
    have b_37 : r2.toInt = 0 := congrArg Int32.toInt q_34
    have z_38 : (0 : Int32).toInt = 0 := rfl
    exact h9ret (0 : Int32) σ1 mσ1 fσ1 (by omega) (by omega) (H0.trans H.symm)
set_option maxRecDepth 100000 in
set_option maxHeartbeats 4000000 in
theorem kF_X2_readsPart_r1 {l : Launch} {V : Vx} {c0 : Nat} {a1 : Int32} {σ0 : Sg} {Qk : Int32 → Sg → Prop} (hc0 : kd c0 = (12, 0)) (lc0 : c0 ∈ ids (V)) (m0 : XI V σ0) (l_a1 : 1 ≤ a1.toInt) (u_a1 : a1.toInt ≤ 1) (pre0 : gr σ0 c0 9 = some 50) (h9ret : ∀ (r : Int32) (σ' : Sg), XI V σ' → FX (fun id => id = c0 + 1) (fun id k => (id = c0 ∧ k = 4) ∨ (id = c0 ∧ k = 11)) σ0 σ' → (0 ≤ r.toInt) → (r.toInt ≤ 1) → (F_X2_readsPart_r1 c0 a1 σ0 = (r, σ')) → Qk r σ') : K_X2_readsPart_r1 l V c0 a1 σ0 Qk := by
  refine e_X2_readsPart_r1 (fun M hl hV hN C => ?_)
  subst hl
  subst hV
  obtain ⟨R9, H0⟩ : ∃ R9, F_X2_readsPart_r1 c0 a1 σ0 = R9 := ⟨_, rfl⟩
  have gc0 : hid _ := kdF_ge hc0
  have T : ∀ n : Nat, (∀ (x1 : Int32) (σ : Sg), XI (mV M) σ → FX (fun id => id = c0 + 1) (fun id k => (id = c0 ∧ k = 4) ∨ (id = c0 ∧ k = 11)) σ0 σ → (1 ≤ x1.toInt) → (x1.toInt ≤ 1) → (LF_X2_readsPart_r1 c0 n x1 σ = R9) → 1 < n → PS M 33 [(0, .ref c0), (1, .int x1)] [] σ (0, 0)) := by
    intro n
    induction n with
    | zero => exact fun _ _ _ _ _ _ _ h8 => absurd h8 (Nat.not_lt_zero _)
    | succ n ih =>
      have ih33 := ih
      · intro x1 σ mσ fσ lx1 ux1 H hmu
        replace H : LB_X2_readsPart_r1_33 c0 (LF_X2_readsPart_r1 c0 n) x1 σ = R9 := H
        unfold LB_X2_readsPart_r1_33 at H
        have kr_c0_9 : gr σ c0 9 = some 50 := (FX_r fσ (show ¬ (c0 = c0 + 1) from by first | omega | (have ugc0 := un gc0; omega)) (show ¬ ((c0 = c0 ∧ 9 = 4) ∨ (c0 = c0 ∧ 9 = 11)) from by first | omega | (have ugc0 := un gc0; omega))).trans pre0
        have k_1 : (gi σ c0 10).toInt = (gi σ0 c0 10).toInt := congrArg Int32.toInt (FX_i fσ (show ¬ (c0 = c0 + 1) from by first | omega | (have ugc0 := un gc0; omega)) (show ¬ ((c0 = c0 ∧ 10 = 4) ∨ (c0 = c0 ∧ 10 = 11)) from by first | omega | (have ugc0 := un gc0; omega)))
        have t_2 := XI_c1 mσ (id := c0) (k := 10) (lim_F0_10 hc0)
        have t_3 := XI_c1 mσ (id := c0) (k := 11) (lim_F0_11 hc0)
        refine s_X2_readsPart_r1_33 C hN hc0 lc0 ?_
        refine ⟨?_, ?_⟩
        · intro q_4
          replace H := f_t q_4 H
          have b_5 : (4 : Int) ≤ x1.toInt := Int32.le_iff_toInt_le.mp q_4
          refine kF_X2_readsTest hc0 lc0 mσ  (by first | with_reducible assumption | with_reducible rfl | omega | assumption | rfl) (fun r3 σ2 mσ2 cσ2 plσ2 phσ2 hσ2 => ?_)
          replace H := f_b hσ2 H
          have fσ2 : FX (fun id => id = c0 + 1) (fun id k => (id = c0 ∧ k = 4) ∨ (id = c0 ∧ k = 11)) σ0 σ2 := FX_tr fσ cσ2 (fun x (h9 : x = c0 + 1) => (show x = c0 + 1 from h9)) (fun x k (h9 : (x = c0 ∧ k = 4) ∨ (x = c0 ∧ k = 11)) => (show (x = c0 + 1) ∨ ((x = c0 ∧ k = 4) ∨ (x = c0 ∧ k = 11)) from h9.elim (fun e9 => Or.inr (show (x = c0 ∧ k = 4) ∨ (x = c0 ∧ k = 11) from Or.inl (e9))) (fun h9 => Or.inr (show (x = c0 ∧ k = 4) ∨ (x = c0 ∧ k = 11) from Or.inr (h9)))))
          have k_6 : (gi σ2 c0 10).toInt = (gi σ c0 10).toInt := congrArg Int32.toInt (FX_i cσ2 (show ¬ (c0 = c0 + 1) from by first | omega | (have ugc0 := un gc0; omega)) (show ¬ ((c0 = c0 ∧ 10 = 4) ∨ (c0 = c0 ∧ 10 = 11)) from by first | omega | (have ugc0 := un gc0; omega)))
          have t_7 := XI_c1 mσ2 (id := c0) (k := 11) (lim_F0_11 hc0)
          have kr_8 : gr σ2 c0 9 = some 50 := (FX_r cσ2 (show ¬ (c0 = c0 + 1) from by first | omega | (have ugc0 := un gc0; omega)) (show ¬ ((c0 = c0 ∧ 9 = 4) ∨ (c0 = c0 ∧ 9 = 11)) from by first | omega | (have ugc0 := un gc0; omega))).trans kr_c0_9
          refine ⟨i_bool (by omega) (by omega), ?_⟩
          exact h9ret r3 σ2 mσ2 fσ2 (by omega) (by omega) (H0.trans H.symm)
        · intro q_4
          replace H := f_f q_4 H
          have b_9 : ¬ (4 : Int) ≤ x1.toInt := fun h9 => q_4 (Int32.le_iff_toInt_le.mpr h9)
          have z_10 : (40 : Int32).toInt = 40 := rfl
          refine kF_X2_takes hc0 lc0 mσ  (by omega) (by omega) (by first | with_reducible assumption | with_reducible rfl | omega | assumption | rfl) (fun r5 σ4 mσ4 cσ4 plσ4 phσ4 hσ4 => ?_)
          replace H := f_b hσ4 H
          have fσ4 : FX (fun id => id = c0 + 1) (fun id k => (id = c0 ∧ k = 4) ∨ (id = c0 ∧ k = 11)) σ0 σ4 := FX_tr fσ cσ4 (fun _ h9 => h9.elim) (fun x k (h9 : (x = c0 ∧ k = 11)) => (show (x = c0 + 1) ∨ ((x = c0 ∧ k = 4) ∨ (x = c0 ∧ k = 11)) from Or.inr (show (x = c0 ∧ k = 4) ∨ (x = c0 ∧ k = 11) from Or.inr (h9))))
          have k_11 : (gi σ4 c0 10).toInt = (gi σ c0 10).toInt := congrArg Int32.toInt (FX_i cσ4 id (show ¬ ((c0 = c0 ∧ 10 = 11)) from by first | omega | (have ugc0 := un gc0; omega)))
          have t_12 := XI_c1 mσ4 (id := c0) (k := 11) (lim_F0_11 hc0)
          have kr_13 : gr σ4 c0 9 = some 50 := (FX_r cσ4 id (show ¬ ((c0 = c0 ∧ 9 = 11)) from by first | omega | (have ugc0 := un gc0; omega))).trans kr_c0_9
          refine ⟨?_, ?_⟩
          · intro q_14
            replace H := f_t q_14 H
            have b_15 : r5.toInt = 0 := congrArg Int32.toInt q_14
            refine kF_X2_readsTest hc0 lc0 mσ4  (by first | with_reducible assumption | with_reducible rfl | omega | assumption | rfl) (fun r8 σ7 mσ7 cσ7 plσ7 phσ7 hσ7 => ?_)
            replace H := f_b hσ7 H
            have fσ7 : FX (fun id => id = c0 + 1) (fun id k => (id = c0 ∧ k = 4) ∨ (id = c0 ∧ k = 11)) σ0 σ7 := FX_tr fσ4 cσ7 (fun x (h9 : x = c0 + 1) => (show x = c0 + 1 from h9)) (fun x k (h9 : (x = c0 ∧ k = 4) ∨ (x = c0 ∧ k = 11)) => (show (x = c0 + 1) ∨ ((x = c0 ∧ k = 4) ∨ (x = c0 ∧ k = 11)) from h9.elim (fun e9 => Or.inr (show (x = c0 ∧ k = 4) ∨ (x = c0 ∧ k = 11) from Or.inl (e9))) (fun h9 => Or.inr (show (x = c0 ∧ k = 4) ∨ (x = c0 ∧ k = 11) from Or.inr (h9)))))
            have k_16 : (gi σ7 c0 10).toInt = (gi σ4 c0 10).toInt := congrArg Int32.toInt (FX_i cσ7 (show ¬ (c0 = c0 + 1) from by first | omega | (have ugc0 := un gc0; omega)) (show ¬ ((c0 = c0 ∧ 10 = 4) ∨ (c0 = c0 ∧ 10 = 11)) from by first | omega | (have ugc0 := un gc0; omega)))
            have t_17 := XI_c1 mσ7 (id := c0) (k := 11) (lim_F0_11 hc0)
            have kr_18 : gr σ7 c0 9 = some 50 := (FX_r cσ7 (show ¬ (c0 = c0 + 1) from by first | omega | (have ugc0 := un gc0; omega)) (show ¬ ((c0 = c0 ∧ 9 = 4) ∨ (c0 = c0 ∧ 9 = 11)) from by first | omega | (have ugc0 := un gc0; omega))).trans kr_13
            refine ⟨i_bool (by omega) (by omega), ?_⟩
            exact h9ret r8 σ7 mσ7 fσ7 (by omega) (by omega) (H0.trans H.symm)
          · intro q_14
            replace H := f_f q_14 H
            have b_19 : ¬ r5.toInt = 0 := fun h9 => q_14 (Int32.toInt_inj.mp h9)
            have t_20 : (x1 + (1 : Int32)).toInt = x1.toInt + 1 := i_add (x := x1) (y := (1 : Int32)) (by show (_ : Int) ≤ x1.toInt + 1; omega) (by show x1.toInt + 1 ≤ (_ : Int); omega)
            refine kF_X2_readsEither_r2 hc0 lc0 mσ4  (by omega) (by omega) (by first | with_reducible assumption | with_reducible rfl | omega | assumption | rfl) (fun r10 σ9 mσ9 cσ9 plσ9 phσ9 hσ9 => ?_)
            replace H := f_b hσ9 H
            have fσ9 : FX (fun id => id = c0 + 1) (fun id k => (id = c0 ∧ k = 4) ∨ (id = c0 ∧ k = 11)) σ0 σ9 := FX_tr fσ4 cσ9 (fun x (h9 : x = c0 + 1) => (show x = c0 + 1 from h9)) (fun x k (h9 : (x = c0 ∧ k = 4) ∨ (x = c0 ∧ k = 11)) => (show (x = c0 + 1) ∨ ((x = c0 ∧ k = 4) ∨ (x = c0 ∧ k = 11)) from h9.elim (fun e9 => Or.inr (show (x = c0 ∧ k = 4) ∨ (x = c0 ∧ k = 11) from Or.inl (e9))) (fun h9 => Or.inr (show (x = c0 ∧ k = 4) ∨ (x = c0 ∧ k = 11) from Or.inr (h9)))))
            have k_21 : (gi σ9 c0 10).toInt = (gi σ4 c0 10).toInt := congrArg Int32.toInt (FX_i cσ9 (show ¬ (c0 = c0 + 1) from by first | omega | (have ugc0 := un gc0; omega)) (show ¬ ((c0 = c0 ∧ 10 = 4) ∨ (c0 = c0 ∧ 10 = 11)) from by first | omega | (have ugc0 := un gc0; omega)))
            have t_22 := XI_c1 mσ9 (id := c0) (k := 11) (lim_F0_11 hc0)
            have kr_23 : gr σ9 c0 9 = some 50 := (FX_r cσ9 (show ¬ (c0 = c0 + 1) from by first | omega | (have ugc0 := un gc0; omega)) (show ¬ ((c0 = c0 ∧ 9 = 4) ∨ (c0 = c0 ∧ 9 = 11)) from by first | omega | (have ugc0 := un gc0; omega))).trans kr_13
            refine ⟨?_, ?_⟩
            · intro q_24
              replace H := f_t q_24 H
              have b_25 : r10.toInt = 0 := congrArg Int32.toInt q_24
              have z_26 : (0 : Int32).toInt = 0 := rfl
              exact h9ret (0 : Int32) σ9 mσ9 fσ9 (by omega) (by omega) (H0.trans H.symm)
            · intro q_24
              replace H := f_f q_24 H
              have b_27 : ¬ r10.toInt = 0 := fun h9 => q_24 (Int32.toInt_inj.mp h9)
              have z_28 : (41 : Int32).toInt = 41 := rfl
              refine kF_X2_takes hc0 lc0 mσ9  (by omega) (by omega) (by first | with_reducible assumption | with_reducible rfl | omega | assumption | rfl) (fun r13 σ12 mσ12 cσ12 plσ12 phσ12 hσ12 => ?_)
              replace H := f_b hσ12 H
              have fσ12 : FX (fun id => id = c0 + 1) (fun id k => (id = c0 ∧ k = 4) ∨ (id = c0 ∧ k = 11)) σ0 σ12 := FX_tr fσ9 cσ12 (fun _ h9 => h9.elim) (fun x k (h9 : (x = c0 ∧ k = 11)) => (show (x = c0 + 1) ∨ ((x = c0 ∧ k = 4) ∨ (x = c0 ∧ k = 11)) from Or.inr (show (x = c0 ∧ k = 4) ∨ (x = c0 ∧ k = 11) from Or.inr (h9))))
              have k_29 : (gi σ12 c0 10).toInt = (gi σ9 c0 10).toInt := congrArg Int32.toInt (FX_i cσ12 id (show ¬ ((c0 = c0 ∧ 10 = 11)) from by first | omega | (have ugc0 := un gc0; omega)))
              have t_30 := XI_c1 mσ12 (id := c0) (k := 11) (lim_F0_11 hc0)
              have kr_31 : gr σ12 c0 9 = some 50 := (FX_r cσ12 id (show ¬ ((c0 = c0 ∧ 9 = 11)) from by first | omega | (have ugc0 := un gc0; omega))).trans kr_23
              refine ⟨?_, ?_⟩
              · intro q_32
                replace H := f_t q_32 H
                have b_33 : r13.toInt = 0 := congrArg Int32.toInt q_32
                have z_34 : (0 : Int32).toInt = 0 := rfl
                exact h9ret (0 : Int32) σ12 mσ12 fσ12 (by omega) (by omega) (H0.trans H.symm)
              · intro q_32
                replace H := f_f q_32 H
                have b_35 : ¬ r13.toInt = 0 := fun h9 => q_32 (Int32.toInt_inj.mp h9)
                have z_36 : (1 : Int32).toInt = 1 := rfl
                exact h9ret (1 : Int32) σ12 mσ12 fσ12 (by omega) (by omega) (H0.trans H.symm)
  have U33 := T 9
  have f0 : FX (fun id => id = c0 + 1) (fun id k => (id = c0 ∧ k = 4) ∨ (id = c0 ∧ k = 11)) σ0 σ0 := FX_rf
  have t_37 := XI_c1 m0 (id := c0) (k := 10) (lim_F0_10 hc0)
  have t_38 := XI_c1 m0 (id := c0) (k := 11) (lim_F0_11 hc0)
  have H := H0
  unfold F_X2_readsPart_r1 at H
  refine s_X2_readsPart_r1_0 C hN hc0 lc0 ?_
  refine ⟨?_, ?_⟩
  · intro q_39
    replace H := f_t q_39 H
    have b_40 : (4 : Int) ≤ a1.toInt := Int32.le_iff_toInt_le.mp q_39
    exact U33 a1 σ0 m0 f0 (by omega) (by omega) H (by omega)
  · intro q_39
    replace H := f_f q_39 H
    have b_41 : ¬ (4 : Int) ≤ a1.toInt := fun h9 => q_39 (Int32.le_iff_toInt_le.mpr h9)
    have z_42 : (33 : Int32).toInt = 33 := rfl
    refine kF_X2_takes hc0 lc0 m0  (by omega) (by omega) (by first | with_reducible assumption | with_reducible rfl | omega | assumption | rfl) (fun r3 σ2 mσ2 cσ2 plσ2 phσ2 hσ2 => ?_)
    replace H := f_b hσ2 H
    have fσ2 : FX (fun id => id = c0 + 1) (fun id k => (id = c0 ∧ k = 4) ∨ (id = c0 ∧ k = 11)) σ0 σ2 := FX_tr f0 cσ2 (fun _ h9 => h9.elim) (fun x k (h9 : (x = c0 ∧ k = 11)) => (show (x = c0 + 1) ∨ ((x = c0 ∧ k = 4) ∨ (x = c0 ∧ k = 11)) from Or.inr (show (x = c0 ∧ k = 4) ∨ (x = c0 ∧ k = 11) from Or.inr (h9))))
    have k_43 : (gi σ2 c0 10).toInt = (gi σ0 c0 10).toInt := congrArg Int32.toInt (FX_i cσ2 id (show ¬ ((c0 = c0 ∧ 10 = 11)) from by first | omega | (have ugc0 := un gc0; omega)))
    have t_44 := XI_c1 mσ2 (id := c0) (k := 11) (lim_F0_11 hc0)
    have kr_45 : gr σ2 c0 9 = some 50 := (FX_r cσ2 id (show ¬ ((c0 = c0 ∧ 9 = 11)) from by first | omega | (have ugc0 := un gc0; omega))).trans pre0
    refine ⟨?_, ?_⟩
    · intro q_46
      replace H := f_t q_46 H
      have b_47 : r3.toInt = 0 := congrArg Int32.toInt q_46
      exact U33 a1 σ2 mσ2 fσ2 (by omega) (by omega) H (by omega)
    · intro q_46
      replace H := f_f q_46 H
      have b_48 : ¬ r3.toInt = 0 := fun h9 => q_46 (Int32.toInt_inj.mp h9)
      have t_49 : (a1 + (1 : Int32)).toInt = a1.toInt + 1 := i_add (x := a1) (y := (1 : Int32)) (by show (_ : Int) ≤ a1.toInt + 1; omega) (by show a1.toInt + 1 ≤ (_ : Int); omega)
      refine kF_X2_readsPart_r2 hc0 lc0 mσ2  (by omega) (by omega) (by first | with_reducible assumption | with_reducible rfl | omega | assumption | rfl) (fun r6 σ5 mσ5 cσ5 plσ5 phσ5 hσ5 => ?_)
      replace H := f_b hσ5 H
      have fσ5 : FX (fun id => id = c0 + 1) (fun id k => (id = c0 ∧ k = 4) ∨ (id = c0 ∧ k = 11)) σ0 σ5 := FX_tr fσ2 cσ5 (fun x (h9 : x = c0 + 1) => (show x = c0 + 1 from h9)) (fun x k (h9 : (x = c0 ∧ k = 4) ∨ (x = c0 ∧ k = 11)) => (show (x = c0 + 1) ∨ ((x = c0 ∧ k = 4) ∨ (x = c0 ∧ k = 11)) from h9.elim (fun e9 => Or.inr (show (x = c0 ∧ k = 4) ∨ (x = c0 ∧ k = 11) from Or.inl (e9))) (fun h9 => Or.inr (show (x = c0 ∧ k = 4) ∨ (x = c0 ∧ k = 11) from Or.inr (h9)))))
      have k_50 : (gi σ5 c0 10).toInt = (gi σ2 c0 10).toInt := congrArg Int32.toInt (FX_i cσ5 (show ¬ (c0 = c0 + 1) from by first | omega | (have ugc0 := un gc0; omega)) (show ¬ ((c0 = c0 ∧ 10 = 4) ∨ (c0 = c0 ∧ 10 = 11)) from by first | omega | (have ugc0 := un gc0; omega)))
      have t_51 := XI_c1 mσ5 (id := c0) (k := 11) (lim_F0_11 hc0)
      have kr_52 : gr σ5 c0 9 = some 50 := (FX_r cσ5 (show ¬ (c0 = c0 + 1) from by first | omega | (have ugc0 := un gc0; omega)) (show ¬ ((c0 = c0 ∧ 9 = 4) ∨ (c0 = c0 ∧ 9 = 11)) from by first | omega | (have ugc0 := un gc0; omega))).trans kr_45
      refine ⟨?_, ?_⟩
      · intro q_53
        replace H := f_f q_53 H
        have b_54 : ¬ r6.toInt = 0 := fun h9 => q_53 (Int32.toInt_inj.mp h9)
        have z_55 : (-1 : Int32).toInt = -1 := rfl
        refine kF_X2_writes hc0 lc0 mσ5  (by omega) (by omega) (fun σ8 mσ8 cσ8 hσ8 => ?_)
        replace H := f_v hσ8 H
        have fσ8 : FX (fun id => id = c0 + 1) (fun id k => (id = c0 ∧ k = 4) ∨ (id = c0 ∧ k = 11)) σ0 σ8 := FX_tr fσ5 cσ8 (fun x (h9 : x = c0 + 1) => (show x = c0 + 1 from h9)) (fun x k (h9 : (x = c0 ∧ k = 4)) => (show (x = c0 + 1) ∨ ((x = c0 ∧ k = 4) ∨ (x = c0 ∧ k = 11)) from Or.inr (show (x = c0 ∧ k = 4) ∨ (x = c0 ∧ k = 11) from Or.inl (h9))))
        have k_56 : (gi σ8 c0 10).toInt = (gi σ5 c0 10).toInt := congrArg Int32.toInt (FX_i cσ8 (show ¬ (c0 = c0 + 1) from by first | omega | (have ugc0 := un gc0; omega)) (show ¬ ((c0 = c0 ∧ 10 = 4)) from by first | omega | (have ugc0 := un gc0; omega)))
        have k_57 : (gi σ8 c0 11).toInt = (gi σ5 c0 11).toInt := congrArg Int32.toInt (FX_i cσ8 (show ¬ (c0 = c0 + 1) from by first | omega | (have ugc0 := un gc0; omega)) (show ¬ ((c0 = c0 ∧ 11 = 4)) from by first | omega | (have ugc0 := un gc0; omega)))
        have kr_58 : gr σ8 c0 9 = some 50 := (FX_r cσ8 (show ¬ (c0 = c0 + 1) from by first | omega | (have ugc0 := un gc0; omega)) (show ¬ ((c0 = c0 ∧ 9 = 4)) from by first | omega | (have ugc0 := un gc0; omega))).trans kr_52
        have z_59 : (1 : Int32).toInt = 1 := rfl
        exact h9ret (1 : Int32) σ8 mσ8 fσ8 (by omega) (by omega) (H0.trans H.symm)
      · intro q_53
        replace H := f_t q_53 H
        have b_60 : r6.toInt = 0 := congrArg Int32.toInt q_53
        have z_61 : (0 : Int32).toInt = 0 := rfl
        exact h9ret (0 : Int32) σ5 mσ5 fσ5 (by omega) (by omega) (H0.trans H.symm)
set_option maxRecDepth 100000 in
set_option maxHeartbeats 4000000 in
theorem kF_X2_readsBoth_r1 {l : Launch} {V : Vx} {c0 : Nat} {a1 : Int32} {σ0 : Sg} {Qk : Int32 → Sg → Prop} (hc0 : kd c0 = (12, 0)) (lc0 : c0 ∈ ids (V)) (m0 : XI V σ0) (l_a1 : 1 ≤ a1.toInt) (u_a1 : a1.toInt ≤ 1) (pre0 : gr σ0 c0 9 = some 50) (h9ret : ∀ (r : Int32) (σ' : Sg), XI V σ' → FX (fun id => id = c0 + 1) (fun id k => (id = c0 ∧ k = 4) ∨ (id = c0 ∧ k = 11)) σ0 σ' → (0 ≤ r.toInt) → (r.toInt ≤ 1) → (F_X2_readsBoth_r1 c0 a1 σ0 = (r, σ')) → Qk r σ') : K_X2_readsBoth_r1 l V c0 a1 σ0 Qk := by
  refine e_X2_readsBoth_r1 (fun M hl hV hN C => ?_)
  subst hl
  subst hV
  obtain ⟨R9, H0⟩ : ∃ R9, F_X2_readsBoth_r1 c0 a1 σ0 = R9 := ⟨_, rfl⟩
  have gc0 : hid _ := kdF_ge hc0
  have T : ∀ n : Nat, (∀ (x1 : Int32) (x2 : Int32) (σ : Sg), XI (mV M) σ → FX (fun id => id = c0 + 1) (fun id k => (id = c0 ∧ k = 4) ∨ (id = c0 ∧ k = 11)) σ0 σ → (1 ≤ x1.toInt) → (x1.toInt ≤ 1) → (0 ≤ x2.toInt) → (x2.toInt ≤ 100) → (LF_X2_readsBoth_r1 c0 n x1 x2 σ = R9) → (101 - x2.toInt).toNat < n → PS M 12 [(0, .ref c0), (1, .int x1), (2, .int x2)] [] σ (0, 0)) := by
    intro n
    induction n with
    | zero => exact fun _ _ _ _ _ _ _ _ _ _ h8 => absurd h8 (Nat.not_lt_zero _)
    | succ n ih =>
      have ih12 := ih
      · intro x1 x2 σ mσ fσ lx1 ux1 lx2 ux2 H hmu
        replace H : LB_X2_readsBoth_r1_12 c0 (LF_X2_readsBoth_r1 c0 n) x1 x2 σ = R9 := H
        unfold LB_X2_readsBoth_r1_12 at H
        have kr_c0_9 : gr σ c0 9 = some 50 := (FX_r fσ (show ¬ (c0 = c0 + 1) from by first | omega | (have ugc0 := un gc0; omega)) (show ¬ ((c0 = c0 ∧ 9 = 4) ∨ (c0 = c0 ∧ 9 = 11)) from by first | omega | (have ugc0 := un gc0; omega))).trans pre0
        have k_1 : (gi σ c0 10).toInt = (gi σ0 c0 10).toInt := congrArg Int32.toInt (FX_i fσ (show ¬ (c0 = c0 + 1) from by first | omega | (have ugc0 := un gc0; omega)) (show ¬ ((c0 = c0 ∧ 10 = 4) ∨ (c0 = c0 ∧ 10 = 11)) from by first | omega | (have ugc0 := un gc0; omega)))
        have t_2 := XI_c1 mσ (id := c0) (k := 10) (lim_F0_10 hc0)
        have t_3 := XI_c1 mσ (id := c0) (k := 11) (lim_F0_11 hc0)
        refine s_X2_readsBoth_r1_12 C hN hc0 lc0 ?_
        refine ⟨?_, ?_⟩
        · intro q_4
          replace H := f_t q_4 H
          have b_5 : (100 : Int) ≤ x2.toInt := Int32.le_iff_toInt_le.mp q_4
          have z_6 : (1 : Int32).toInt = 1 := rfl
          exact h9ret (1 : Int32) σ mσ fσ (by omega) (by omega) (H0.trans H.symm)
        · intro q_4
          replace H := f_f q_4 H
          have b_7 : ¬ (100 : Int) ≤ x2.toInt := fun h9 => q_4 (Int32.le_iff_toInt_le.mpr h9)
          have z_8 : (38 : Int32).toInt = 38 := rfl
          refine kF_X2_takes hc0 lc0 mσ  (by omega) (by omega) (by first | with_reducible assumption | with_reducible rfl | omega | assumption | rfl) (fun r3 σ2 mσ2 cσ2 plσ2 phσ2 hσ2 => ?_)
          replace H := f_b hσ2 H
          have fσ2 : FX (fun id => id = c0 + 1) (fun id k => (id = c0 ∧ k = 4) ∨ (id = c0 ∧ k = 11)) σ0 σ2 := FX_tr fσ cσ2 (fun _ h9 => h9.elim) (fun x k (h9 : (x = c0 ∧ k = 11)) => (show (x = c0 + 1) ∨ ((x = c0 ∧ k = 4) ∨ (x = c0 ∧ k = 11)) from Or.inr (show (x = c0 ∧ k = 4) ∨ (x = c0 ∧ k = 11) from Or.inr (h9))))
          have k_9 : (gi σ2 c0 10).toInt = (gi σ c0 10).toInt := congrArg Int32.toInt (FX_i cσ2 id (show ¬ ((c0 = c0 ∧ 10 = 11)) from by first | omega | (have ugc0 := un gc0; omega)))
          have t_10 := XI_c1 mσ2 (id := c0) (k := 11) (lim_F0_11 hc0)
          have kr_11 : gr σ2 c0 9 = some 50 := (FX_r cσ2 id (show ¬ ((c0 = c0 ∧ 9 = 11)) from by first | omega | (have ugc0 := un gc0; omega))).trans kr_c0_9
          refine ⟨?_, ?_⟩
          · intro q_12
            replace H := f_t q_12 H
            have b_13 : r3.toInt = 0 := congrArg Int32.toInt q_12
            have z_14 : (1 : Int32).toInt = 1 := rfl
            exact h9ret (1 : Int32) σ2 mσ2 fσ2 (by omega) (by omega) (H0.trans H.symm)
          · intro q_12
            replace H := f_f q_12 H
            have b_15 : ¬ r3.toInt = 0 := fun h9 => q_12 (Int32.toInt_inj.mp h9)
            refine kF_X2_readsPart_r1 hc0 lc0 mσ2  (by omega) (by omega) (by first | with_reducible assumption | with_reducible rfl | omega | assumption | rfl) (fun r6 σ5 mσ5 cσ5 plσ5 phσ5 hσ5 => ?_)
            replace H := f_b hσ5 H
            have fσ5 : FX (fun id => id = c0 + 1) (fun id k => (id = c0 ∧ k = 4) ∨ (id = c0 ∧ k = 11)) σ0 σ5 := FX_tr fσ2 cσ5 (fun x (h9 : x = c0 + 1) => (show x = c0 + 1 from h9)) (fun x k (h9 : (x = c0 ∧ k = 4) ∨ (x = c0 ∧ k = 11)) => (show (x = c0 + 1) ∨ ((x = c0 ∧ k = 4) ∨ (x = c0 ∧ k = 11)) from h9.elim (fun e9 => Or.inr (show (x = c0 ∧ k = 4) ∨ (x = c0 ∧ k = 11) from Or.inl (e9))) (fun h9 => Or.inr (show (x = c0 ∧ k = 4) ∨ (x = c0 ∧ k = 11) from Or.inr (h9)))))
            have k_16 : (gi σ5 c0 10).toInt = (gi σ2 c0 10).toInt := congrArg Int32.toInt (FX_i cσ5 (show ¬ (c0 = c0 + 1) from by first | omega | (have ugc0 := un gc0; omega)) (show ¬ ((c0 = c0 ∧ 10 = 4) ∨ (c0 = c0 ∧ 10 = 11)) from by first | omega | (have ugc0 := un gc0; omega)))
            have t_17 := XI_c1 mσ5 (id := c0) (k := 11) (lim_F0_11 hc0)
            have kr_18 : gr σ5 c0 9 = some 50 := (FX_r cσ5 (show ¬ (c0 = c0 + 1) from by first | omega | (have ugc0 := un gc0; omega)) (show ¬ ((c0 = c0 ∧ 9 = 4) ∨ (c0 = c0 ∧ 9 = 11)) from by first | omega | (have ugc0 := un gc0; omega))).trans kr_11
            refine ⟨?_, ?_⟩
            · intro q_19
              replace H := f_f q_19 H
              have b_20 : ¬ r6.toInt = 0 := fun h9 => q_19 (Int32.toInt_inj.mp h9)
              have z_21 : (-2 : Int32).toInt = -2 := rfl
              refine kF_X2_writes hc0 lc0 mσ5  (by omega) (by omega) (fun σ8 mσ8 cσ8 hσ8 => ?_)
              replace H := f_v hσ8 H
              have fσ8 : FX (fun id => id = c0 + 1) (fun id k => (id = c0 ∧ k = 4) ∨ (id = c0 ∧ k = 11)) σ0 σ8 := FX_tr fσ5 cσ8 (fun x (h9 : x = c0 + 1) => (show x = c0 + 1 from h9)) (fun x k (h9 : (x = c0 ∧ k = 4)) => (show (x = c0 + 1) ∨ ((x = c0 ∧ k = 4) ∨ (x = c0 ∧ k = 11)) from Or.inr (show (x = c0 ∧ k = 4) ∨ (x = c0 ∧ k = 11) from Or.inl (h9))))
              have k_22 : (gi σ8 c0 10).toInt = (gi σ5 c0 10).toInt := congrArg Int32.toInt (FX_i cσ8 (show ¬ (c0 = c0 + 1) from by first | omega | (have ugc0 := un gc0; omega)) (show ¬ ((c0 = c0 ∧ 10 = 4)) from by first | omega | (have ugc0 := un gc0; omega)))
              have k_23 : (gi σ8 c0 11).toInt = (gi σ5 c0 11).toInt := congrArg Int32.toInt (FX_i cσ8 (show ¬ (c0 = c0 + 1) from by first | omega | (have ugc0 := un gc0; omega)) (show ¬ ((c0 = c0 ∧ 11 = 4)) from by first | omega | (have ugc0 := un gc0; omega)))
              have kr_24 : gr σ8 c0 9 = some 50 := (FX_r cσ8 (show ¬ (c0 = c0 + 1) from by first | omega | (have ugc0 := un gc0; omega)) (show ¬ ((c0 = c0 ∧ 9 = 4)) from by first | omega | (have ugc0 := un gc0; omega))).trans kr_18
              intro v9 ev9
              replace H := f_l ev9 H
              have t_25 : (x2 + (1 : Int32)).toInt = x2.toInt + 1 := i_add (x := x2) (y := (1 : Int32)) (by show (_ : Int) ≤ x2.toInt + 1; omega) (by show x2.toInt + 1 ≤ (_ : Int); omega)
              have t_26 : v9.toInt = (x2 + (1 : Int32)).toInt := congrArg Int32.toInt ev9
              exact ih12 x1 v9 σ8 mσ8 fσ8 (by omega) (by omega) (by omega) (by omega) H (by omega)
            · intro q_19
              replace H := f_t q_19 H
              have b_27 : r6.toInt = 0 := congrArg Int32.toInt q_19
              have z_28 : (0 : Int32).toInt = 0 := rfl
              exact h9ret (0 : Int32) σ5 mσ5 fσ5 (by omega) (by omega) (H0.trans H.symm)
  have U12 := T 200
  have f0 : FX (fun id => id = c0 + 1) (fun id k => (id = c0 ∧ k = 4) ∨ (id = c0 ∧ k = 11)) σ0 σ0 := FX_rf
  have t_29 := XI_c1 m0 (id := c0) (k := 10) (lim_F0_10 hc0)
  have t_30 := XI_c1 m0 (id := c0) (k := 11) (lim_F0_11 hc0)
  have H := H0
  unfold F_X2_readsBoth_r1 at H
  refine s_X2_readsBoth_r1_0 C hN hc0 lc0 ?_
  refine kF_X2_readsPart_r1 hc0 lc0 m0  (by omega) (by omega) (by first | with_reducible assumption | with_reducible rfl | omega | assumption | rfl) (fun r2 σ1 mσ1 cσ1 plσ1 phσ1 hσ1 => ?_)
  replace H := f_b hσ1 H
  have fσ1 : FX (fun id => id = c0 + 1) (fun id k => (id = c0 ∧ k = 4) ∨ (id = c0 ∧ k = 11)) σ0 σ1 := FX_tr f0 cσ1 (fun x (h9 : x = c0 + 1) => (show x = c0 + 1 from h9)) (fun x k (h9 : (x = c0 ∧ k = 4) ∨ (x = c0 ∧ k = 11)) => (show (x = c0 + 1) ∨ ((x = c0 ∧ k = 4) ∨ (x = c0 ∧ k = 11)) from h9.elim (fun e9 => Or.inr (show (x = c0 ∧ k = 4) ∨ (x = c0 ∧ k = 11) from Or.inl (e9))) (fun h9 => Or.inr (show (x = c0 ∧ k = 4) ∨ (x = c0 ∧ k = 11) from Or.inr (h9)))))
  have k_31 : (gi σ1 c0 10).toInt = (gi σ0 c0 10).toInt := congrArg Int32.toInt (FX_i cσ1 (show ¬ (c0 = c0 + 1) from by first | omega | (have ugc0 := un gc0; omega)) (show ¬ ((c0 = c0 ∧ 10 = 4) ∨ (c0 = c0 ∧ 10 = 11)) from by first | omega | (have ugc0 := un gc0; omega)))
  have t_32 := XI_c1 mσ1 (id := c0) (k := 11) (lim_F0_11 hc0)
  have kr_33 : gr σ1 c0 9 = some 50 := (FX_r cσ1 (show ¬ (c0 = c0 + 1) from by first | omega | (have ugc0 := un gc0; omega)) (show ¬ ((c0 = c0 ∧ 9 = 4) ∨ (c0 = c0 ∧ 9 = 11)) from by first | omega | (have ugc0 := un gc0; omega))).trans pre0
  refine ⟨?_, ?_⟩
  · intro q_34
    replace H := f_f q_34 H
    have b_35 : ¬ r2.toInt = 0 := fun h9 => q_34 (Int32.toInt_inj.mp h9)
    have z_36 : (0 : Int32).toInt = 0 := rfl
    exact U12 a1 (0 : Int32) σ1 mσ1 fσ1 (by omega) (by omega) (by omega) (by omega) H (by omega)
  · intro q_34
    replace H := f_t q_34 H
    have b_37 : r2.toInt = 0 := congrArg Int32.toInt q_34
    have z_38 : (0 : Int32).toInt = 0 := rfl
    exact h9ret (0 : Int32) σ1 mσ1 fσ1 (by omega) (by omega) (H0.trans H.symm)
set_option maxRecDepth 100000 in
set_option maxHeartbeats 4000000 in
theorem kF_X2_readsEither_r1 {l : Launch} {V : Vx} {c0 : Nat} {a1 : Int32} {σ0 : Sg} {Qk : Int32 → Sg → Prop} (hc0 : kd c0 = (12, 0)) (lc0 : c0 ∈ ids (V)) (m0 : XI V σ0) (l_a1 : 1 ≤ a1.toInt) (u_a1 : a1.toInt ≤ 1) (pre0 : gr σ0 c0 9 = some 50) (h9ret : ∀ (r : Int32) (σ' : Sg), XI V σ' → FX (fun id => id = c0 + 1) (fun id k => (id = c0 ∧ k = 4) ∨ (id = c0 ∧ k = 11)) σ0 σ' → (0 ≤ r.toInt) → (r.toInt ≤ 1) → (F_X2_readsEither_r1 c0 a1 σ0 = (r, σ')) → Qk r σ') : K_X2_readsEither_r1 l V c0 a1 σ0 Qk := by
  refine e_X2_readsEither_r1 (fun M hl hV hN C => ?_)
  subst hl
  subst hV
  obtain ⟨R9, H0⟩ : ∃ R9, F_X2_readsEither_r1 c0 a1 σ0 = R9 := ⟨_, rfl⟩
  have gc0 : hid _ := kdF_ge hc0
  have T : ∀ n : Nat, (∀ (x1 : Int32) (x2 : Int32) (σ : Sg), XI (mV M) σ → FX (fun id => id = c0 + 1) (fun id k => (id = c0 ∧ k = 4) ∨ (id = c0 ∧ k = 11)) σ0 σ → (1 ≤ x1.toInt) → (x1.toInt ≤ 1) → (0 ≤ x2.toInt) → (x2.toInt ≤ 100) → (LF_X2_readsEither_r1 c0 n x1 x2 σ = R9) → (101 - x2.toInt).toNat < n → PS M 12 [(0, .ref c0), (1, .int x1), (2, .int x2)] [] σ (0, 0)) := by
    intro n
    induction n with
    | zero => exact fun _ _ _ _ _ _ _ _ _ _ h8 => absurd h8 (Nat.not_lt_zero _)
    | succ n ih =>
      have ih12 := ih
      · intro x1 x2 σ mσ fσ lx1 ux1 lx2 ux2 H hmu
        replace H : LB_X2_readsEither_r1_12 c0 (LF_X2_readsEither_r1 c0 n) x1 x2 σ = R9 := H
        unfold LB_X2_readsEither_r1_12 at H
        have kr_c0_9 : gr σ c0 9 = some 50 := (FX_r fσ (show ¬ (c0 = c0 + 1) from by first | omega | (have ugc0 := un gc0; omega)) (show ¬ ((c0 = c0 ∧ 9 = 4) ∨ (c0 = c0 ∧ 9 = 11)) from by first | omega | (have ugc0 := un gc0; omega))).trans pre0
        have k_1 : (gi σ c0 10).toInt = (gi σ0 c0 10).toInt := congrArg Int32.toInt (FX_i fσ (show ¬ (c0 = c0 + 1) from by first | omega | (have ugc0 := un gc0; omega)) (show ¬ ((c0 = c0 ∧ 10 = 4) ∨ (c0 = c0 ∧ 10 = 11)) from by first | omega | (have ugc0 := un gc0; omega)))
        have t_2 := XI_c1 mσ (id := c0) (k := 10) (lim_F0_10 hc0)
        have t_3 := XI_c1 mσ (id := c0) (k := 11) (lim_F0_11 hc0)
        refine s_X2_readsEither_r1_12 C hN hc0 lc0 ?_
        refine ⟨?_, ?_⟩
        · intro q_4
          replace H := f_t q_4 H
          have b_5 : (100 : Int) ≤ x2.toInt := Int32.le_iff_toInt_le.mp q_4
          have z_6 : (1 : Int32).toInt = 1 := rfl
          exact h9ret (1 : Int32) σ mσ fσ (by omega) (by omega) (H0.trans H.symm)
        · intro q_4
          replace H := f_f q_4 H
          have b_7 : ¬ (100 : Int) ≤ x2.toInt := fun h9 => q_4 (Int32.le_iff_toInt_le.mpr h9)
          have z_8 : (124 : Int32).toInt = 124 := rfl
          refine kF_X2_takes hc0 lc0 mσ  (by omega) (by omega) (by first | with_reducible assumption | with_reducible rfl | omega | assumption | rfl) (fun r3 σ2 mσ2 cσ2 plσ2 phσ2 hσ2 => ?_)
          replace H := f_b hσ2 H
          have fσ2 : FX (fun id => id = c0 + 1) (fun id k => (id = c0 ∧ k = 4) ∨ (id = c0 ∧ k = 11)) σ0 σ2 := FX_tr fσ cσ2 (fun _ h9 => h9.elim) (fun x k (h9 : (x = c0 ∧ k = 11)) => (show (x = c0 + 1) ∨ ((x = c0 ∧ k = 4) ∨ (x = c0 ∧ k = 11)) from Or.inr (show (x = c0 ∧ k = 4) ∨ (x = c0 ∧ k = 11) from Or.inr (h9))))
          have k_9 : (gi σ2 c0 10).toInt = (gi σ c0 10).toInt := congrArg Int32.toInt (FX_i cσ2 id (show ¬ ((c0 = c0 ∧ 10 = 11)) from by first | omega | (have ugc0 := un gc0; omega)))
          have t_10 := XI_c1 mσ2 (id := c0) (k := 11) (lim_F0_11 hc0)
          have kr_11 : gr σ2 c0 9 = some 50 := (FX_r cσ2 id (show ¬ ((c0 = c0 ∧ 9 = 11)) from by first | omega | (have ugc0 := un gc0; omega))).trans kr_c0_9
          refine ⟨?_, ?_⟩
          · intro q_12
            replace H := f_t q_12 H
            have b_13 : r3.toInt = 0 := congrArg Int32.toInt q_12
            have z_14 : (1 : Int32).toInt = 1 := rfl
            exact h9ret (1 : Int32) σ2 mσ2 fσ2 (by omega) (by omega) (H0.trans H.symm)
          · intro q_12
            replace H := f_f q_12 H
            have b_15 : ¬ r3.toInt = 0 := fun h9 => q_12 (Int32.toInt_inj.mp h9)
            refine kF_X2_readsBoth_r1 hc0 lc0 mσ2  (by omega) (by omega) (by first | with_reducible assumption | with_reducible rfl | omega | assumption | rfl) (fun r6 σ5 mσ5 cσ5 plσ5 phσ5 hσ5 => ?_)
            replace H := f_b hσ5 H
            have fσ5 : FX (fun id => id = c0 + 1) (fun id k => (id = c0 ∧ k = 4) ∨ (id = c0 ∧ k = 11)) σ0 σ5 := FX_tr fσ2 cσ5 (fun x (h9 : x = c0 + 1) => (show x = c0 + 1 from h9)) (fun x k (h9 : (x = c0 ∧ k = 4) ∨ (x = c0 ∧ k = 11)) => (show (x = c0 + 1) ∨ ((x = c0 ∧ k = 4) ∨ (x = c0 ∧ k = 11)) from h9.elim (fun e9 => Or.inr (show (x = c0 ∧ k = 4) ∨ (x = c0 ∧ k = 11) from Or.inl (e9))) (fun h9 => Or.inr (show (x = c0 ∧ k = 4) ∨ (x = c0 ∧ k = 11) from Or.inr (h9)))))
            have k_16 : (gi σ5 c0 10).toInt = (gi σ2 c0 10).toInt := congrArg Int32.toInt (FX_i cσ5 (show ¬ (c0 = c0 + 1) from by first | omega | (have ugc0 := un gc0; omega)) (show ¬ ((c0 = c0 ∧ 10 = 4) ∨ (c0 = c0 ∧ 10 = 11)) from by first | omega | (have ugc0 := un gc0; omega)))
            have t_17 := XI_c1 mσ5 (id := c0) (k := 11) (lim_F0_11 hc0)
            have kr_18 : gr σ5 c0 9 = some 50 := (FX_r cσ5 (show ¬ (c0 = c0 + 1) from by first | omega | (have ugc0 := un gc0; omega)) (show ¬ ((c0 = c0 ∧ 9 = 4) ∨ (c0 = c0 ∧ 9 = 11)) from by first | omega | (have ugc0 := un gc0; omega))).trans kr_11
            refine ⟨?_, ?_⟩
            · intro q_19
              replace H := f_f q_19 H
              have b_20 : ¬ r6.toInt = 0 := fun h9 => q_19 (Int32.toInt_inj.mp h9)
              have z_21 : (-3 : Int32).toInt = -3 := rfl
              refine kF_X2_writes hc0 lc0 mσ5  (by omega) (by omega) (fun σ8 mσ8 cσ8 hσ8 => ?_)
              replace H := f_v hσ8 H
              have fσ8 : FX (fun id => id = c0 + 1) (fun id k => (id = c0 ∧ k = 4) ∨ (id = c0 ∧ k = 11)) σ0 σ8 := FX_tr fσ5 cσ8 (fun x (h9 : x = c0 + 1) => (show x = c0 + 1 from h9)) (fun x k (h9 : (x = c0 ∧ k = 4)) => (show (x = c0 + 1) ∨ ((x = c0 ∧ k = 4) ∨ (x = c0 ∧ k = 11)) from Or.inr (show (x = c0 ∧ k = 4) ∨ (x = c0 ∧ k = 11) from Or.inl (h9))))
              have k_22 : (gi σ8 c0 10).toInt = (gi σ5 c0 10).toInt := congrArg Int32.toInt (FX_i cσ8 (show ¬ (c0 = c0 + 1) from by first | omega | (have ugc0 := un gc0; omega)) (show ¬ ((c0 = c0 ∧ 10 = 4)) from by first | omega | (have ugc0 := un gc0; omega)))
              have k_23 : (gi σ8 c0 11).toInt = (gi σ5 c0 11).toInt := congrArg Int32.toInt (FX_i cσ8 (show ¬ (c0 = c0 + 1) from by first | omega | (have ugc0 := un gc0; omega)) (show ¬ ((c0 = c0 ∧ 11 = 4)) from by first | omega | (have ugc0 := un gc0; omega)))
              have kr_24 : gr σ8 c0 9 = some 50 := (FX_r cσ8 (show ¬ (c0 = c0 + 1) from by first | omega | (have ugc0 := un gc0; omega)) (show ¬ ((c0 = c0 ∧ 9 = 4)) from by first | omega | (have ugc0 := un gc0; omega))).trans kr_18
              intro v9 ev9
              replace H := f_l ev9 H
              have t_25 : (x2 + (1 : Int32)).toInt = x2.toInt + 1 := i_add (x := x2) (y := (1 : Int32)) (by show (_ : Int) ≤ x2.toInt + 1; omega) (by show x2.toInt + 1 ≤ (_ : Int); omega)
              have t_26 : v9.toInt = (x2 + (1 : Int32)).toInt := congrArg Int32.toInt ev9
              exact ih12 x1 v9 σ8 mσ8 fσ8 (by omega) (by omega) (by omega) (by omega) H (by omega)
            · intro q_19
              replace H := f_t q_19 H
              have b_27 : r6.toInt = 0 := congrArg Int32.toInt q_19
              have z_28 : (0 : Int32).toInt = 0 := rfl
              exact h9ret (0 : Int32) σ5 mσ5 fσ5 (by omega) (by omega) (H0.trans H.symm)
  have U12 := T 200
  have f0 : FX (fun id => id = c0 + 1) (fun id k => (id = c0 ∧ k = 4) ∨ (id = c0 ∧ k = 11)) σ0 σ0 := FX_rf
  have t_29 := XI_c1 m0 (id := c0) (k := 10) (lim_F0_10 hc0)
  have t_30 := XI_c1 m0 (id := c0) (k := 11) (lim_F0_11 hc0)
  have H := H0
  unfold F_X2_readsEither_r1 at H
  refine s_X2_readsEither_r1_0 C hN hc0 lc0 ?_
  refine kF_X2_readsBoth_r1 hc0 lc0 m0  (by omega) (by omega) (by first | with_reducible assumption | with_reducible rfl | omega | assumption | rfl) (fun r2 σ1 mσ1 cσ1 plσ1 phσ1 hσ1 => ?_)
  replace H := f_b hσ1 H
  have fσ1 : FX (fun id => id = c0 + 1) (fun id k => (id = c0 ∧ k = 4) ∨ (id = c0 ∧ k = 11)) σ0 σ1 := FX_tr f0 cσ1 (fun x (h9 : x = c0 + 1) => (show x = c0 + 1 from h9)) (fun x k (h9 : (x = c0 ∧ k = 4) ∨ (x = c0 ∧ k = 11)) => (show (x = c0 + 1) ∨ ((x = c0 ∧ k = 4) ∨ (x = c0 ∧ k = 11)) from h9.elim (fun e9 => Or.inr (show (x = c0 ∧ k = 4) ∨ (x = c0 ∧ k = 11) from Or.inl (e9))) (fun h9 => Or.inr (show (x = c0 ∧ k = 4) ∨ (x = c0 ∧ k = 11) from Or.inr (h9)))))
  have k_31 : (gi σ1 c0 10).toInt = (gi σ0 c0 10).toInt := congrArg Int32.toInt (FX_i cσ1 (show ¬ (c0 = c0 + 1) from by first | omega | (have ugc0 := un gc0; omega)) (show ¬ ((c0 = c0 ∧ 10 = 4) ∨ (c0 = c0 ∧ 10 = 11)) from by first | omega | (have ugc0 := un gc0; omega)))
  have t_32 := XI_c1 mσ1 (id := c0) (k := 11) (lim_F0_11 hc0)
  have kr_33 : gr σ1 c0 9 = some 50 := (FX_r cσ1 (show ¬ (c0 = c0 + 1) from by first | omega | (have ugc0 := un gc0; omega)) (show ¬ ((c0 = c0 ∧ 9 = 4) ∨ (c0 = c0 ∧ 9 = 11)) from by first | omega | (have ugc0 := un gc0; omega))).trans pre0
  refine ⟨?_, ?_⟩
  · intro q_34
    replace H := f_f q_34 H
    have b_35 : ¬ r2.toInt = 0 := fun h9 => q_34 (Int32.toInt_inj.mp h9)
    have z_36 : (0 : Int32).toInt = 0 := rfl
    exact U12 a1 (0 : Int32) σ1 mσ1 fσ1 (by omega) (by omega) (by omega) (by omega) H (by omega)
  · intro q_34
    replace H := f_t q_34 H
    have b_37 : r2.toInt = 0 := congrArg Int32.toInt q_34
    have z_38 : (0 : Int32).toInt = 0 := rfl
    exact h9ret (0 : Int32) σ1 mσ1 fσ1 (by omega) (by omega) (H0.trans H.symm)
set_option maxRecDepth 100000 in
set_option maxHeartbeats 4000000 in
theorem kF_X2_readsPart_r0 {l : Launch} {V : Vx} {c0 : Nat} {a1 : Int32} {σ0 : Sg} {Qk : Int32 → Sg → Prop} (hc0 : kd c0 = (12, 0)) (lc0 : c0 ∈ ids (V)) (m0 : XI V σ0) (l_a1 : 0 ≤ a1.toInt) (u_a1 : a1.toInt ≤ 0) (pre0 : gr σ0 c0 9 = some 50) (h9ret : ∀ (r : Int32) (σ' : Sg), XI V σ' → FX (fun id => id = c0 + 1) (fun id k => (id = c0 ∧ k = 4) ∨ (id = c0 ∧ k = 11)) σ0 σ' → (0 ≤ r.toInt) → (r.toInt ≤ 1) → (F_X2_readsPart_r0 c0 a1 σ0 = (r, σ')) → Qk r σ') : K_X2_readsPart_r0 l V c0 a1 σ0 Qk := by
  refine e_X2_readsPart_r0 (fun M hl hV hN C => ?_)
  subst hl
  subst hV
  obtain ⟨R9, H0⟩ : ∃ R9, F_X2_readsPart_r0 c0 a1 σ0 = R9 := ⟨_, rfl⟩
  have gc0 : hid _ := kdF_ge hc0
  have T : ∀ n : Nat, (∀ (x1 : Int32) (σ : Sg), XI (mV M) σ → FX (fun id => id = c0 + 1) (fun id k => (id = c0 ∧ k = 4) ∨ (id = c0 ∧ k = 11)) σ0 σ → (0 ≤ x1.toInt) → (x1.toInt ≤ 0) → (LF_X2_readsPart_r0 c0 n x1 σ = R9) → 1 < n → PS M 33 [(0, .ref c0), (1, .int x1)] [] σ (0, 0)) := by
    intro n
    induction n with
    | zero => exact fun _ _ _ _ _ _ _ h8 => absurd h8 (Nat.not_lt_zero _)
    | succ n ih =>
      have ih33 := ih
      · intro x1 σ mσ fσ lx1 ux1 H hmu
        replace H : LB_X2_readsPart_r0_33 c0 (LF_X2_readsPart_r0 c0 n) x1 σ = R9 := H
        unfold LB_X2_readsPart_r0_33 at H
        have kr_c0_9 : gr σ c0 9 = some 50 := (FX_r fσ (show ¬ (c0 = c0 + 1) from by first | omega | (have ugc0 := un gc0; omega)) (show ¬ ((c0 = c0 ∧ 9 = 4) ∨ (c0 = c0 ∧ 9 = 11)) from by first | omega | (have ugc0 := un gc0; omega))).trans pre0
        have k_1 : (gi σ c0 10).toInt = (gi σ0 c0 10).toInt := congrArg Int32.toInt (FX_i fσ (show ¬ (c0 = c0 + 1) from by first | omega | (have ugc0 := un gc0; omega)) (show ¬ ((c0 = c0 ∧ 10 = 4) ∨ (c0 = c0 ∧ 10 = 11)) from by first | omega | (have ugc0 := un gc0; omega)))
        have t_2 := XI_c1 mσ (id := c0) (k := 10) (lim_F0_10 hc0)
        have t_3 := XI_c1 mσ (id := c0) (k := 11) (lim_F0_11 hc0)
        refine s_X2_readsPart_r0_33 C hN hc0 lc0 ?_
        refine ⟨?_, ?_⟩
        · intro q_4
          replace H := f_t q_4 H
          have b_5 : (4 : Int) ≤ x1.toInt := Int32.le_iff_toInt_le.mp q_4
          refine kF_X2_readsTest hc0 lc0 mσ  (by first | with_reducible assumption | with_reducible rfl | omega | assumption | rfl) (fun r3 σ2 mσ2 cσ2 plσ2 phσ2 hσ2 => ?_)
          replace H := f_b hσ2 H
          have fσ2 : FX (fun id => id = c0 + 1) (fun id k => (id = c0 ∧ k = 4) ∨ (id = c0 ∧ k = 11)) σ0 σ2 := FX_tr fσ cσ2 (fun x (h9 : x = c0 + 1) => (show x = c0 + 1 from h9)) (fun x k (h9 : (x = c0 ∧ k = 4) ∨ (x = c0 ∧ k = 11)) => (show (x = c0 + 1) ∨ ((x = c0 ∧ k = 4) ∨ (x = c0 ∧ k = 11)) from h9.elim (fun e9 => Or.inr (show (x = c0 ∧ k = 4) ∨ (x = c0 ∧ k = 11) from Or.inl (e9))) (fun h9 => Or.inr (show (x = c0 ∧ k = 4) ∨ (x = c0 ∧ k = 11) from Or.inr (h9)))))
          have k_6 : (gi σ2 c0 10).toInt = (gi σ c0 10).toInt := congrArg Int32.toInt (FX_i cσ2 (show ¬ (c0 = c0 + 1) from by first | omega | (have ugc0 := un gc0; omega)) (show ¬ ((c0 = c0 ∧ 10 = 4) ∨ (c0 = c0 ∧ 10 = 11)) from by first | omega | (have ugc0 := un gc0; omega)))
          have t_7 := XI_c1 mσ2 (id := c0) (k := 11) (lim_F0_11 hc0)
          have kr_8 : gr σ2 c0 9 = some 50 := (FX_r cσ2 (show ¬ (c0 = c0 + 1) from by first | omega | (have ugc0 := un gc0; omega)) (show ¬ ((c0 = c0 ∧ 9 = 4) ∨ (c0 = c0 ∧ 9 = 11)) from by first | omega | (have ugc0 := un gc0; omega))).trans kr_c0_9
          refine ⟨i_bool (by omega) (by omega), ?_⟩
          exact h9ret r3 σ2 mσ2 fσ2 (by omega) (by omega) (H0.trans H.symm)
        · intro q_4
          replace H := f_f q_4 H
          have b_9 : ¬ (4 : Int) ≤ x1.toInt := fun h9 => q_4 (Int32.le_iff_toInt_le.mpr h9)
          have z_10 : (40 : Int32).toInt = 40 := rfl
          refine kF_X2_takes hc0 lc0 mσ  (by omega) (by omega) (by first | with_reducible assumption | with_reducible rfl | omega | assumption | rfl) (fun r5 σ4 mσ4 cσ4 plσ4 phσ4 hσ4 => ?_)
          replace H := f_b hσ4 H
          have fσ4 : FX (fun id => id = c0 + 1) (fun id k => (id = c0 ∧ k = 4) ∨ (id = c0 ∧ k = 11)) σ0 σ4 := FX_tr fσ cσ4 (fun _ h9 => h9.elim) (fun x k (h9 : (x = c0 ∧ k = 11)) => (show (x = c0 + 1) ∨ ((x = c0 ∧ k = 4) ∨ (x = c0 ∧ k = 11)) from Or.inr (show (x = c0 ∧ k = 4) ∨ (x = c0 ∧ k = 11) from Or.inr (h9))))
          have k_11 : (gi σ4 c0 10).toInt = (gi σ c0 10).toInt := congrArg Int32.toInt (FX_i cσ4 id (show ¬ ((c0 = c0 ∧ 10 = 11)) from by first | omega | (have ugc0 := un gc0; omega)))
          have t_12 := XI_c1 mσ4 (id := c0) (k := 11) (lim_F0_11 hc0)
          have kr_13 : gr σ4 c0 9 = some 50 := (FX_r cσ4 id (show ¬ ((c0 = c0 ∧ 9 = 11)) from by first | omega | (have ugc0 := un gc0; omega))).trans kr_c0_9
          refine ⟨?_, ?_⟩
          · intro q_14
            replace H := f_t q_14 H
            have b_15 : r5.toInt = 0 := congrArg Int32.toInt q_14
            refine kF_X2_readsTest hc0 lc0 mσ4  (by first | with_reducible assumption | with_reducible rfl | omega | assumption | rfl) (fun r8 σ7 mσ7 cσ7 plσ7 phσ7 hσ7 => ?_)
            replace H := f_b hσ7 H
            have fσ7 : FX (fun id => id = c0 + 1) (fun id k => (id = c0 ∧ k = 4) ∨ (id = c0 ∧ k = 11)) σ0 σ7 := FX_tr fσ4 cσ7 (fun x (h9 : x = c0 + 1) => (show x = c0 + 1 from h9)) (fun x k (h9 : (x = c0 ∧ k = 4) ∨ (x = c0 ∧ k = 11)) => (show (x = c0 + 1) ∨ ((x = c0 ∧ k = 4) ∨ (x = c0 ∧ k = 11)) from h9.elim (fun e9 => Or.inr (show (x = c0 ∧ k = 4) ∨ (x = c0 ∧ k = 11) from Or.inl (e9))) (fun h9 => Or.inr (show (x = c0 ∧ k = 4) ∨ (x = c0 ∧ k = 11) from Or.inr (h9)))))
            have k_16 : (gi σ7 c0 10).toInt = (gi σ4 c0 10).toInt := congrArg Int32.toInt (FX_i cσ7 (show ¬ (c0 = c0 + 1) from by first | omega | (have ugc0 := un gc0; omega)) (show ¬ ((c0 = c0 ∧ 10 = 4) ∨ (c0 = c0 ∧ 10 = 11)) from by first | omega | (have ugc0 := un gc0; omega)))
            have t_17 := XI_c1 mσ7 (id := c0) (k := 11) (lim_F0_11 hc0)
            have kr_18 : gr σ7 c0 9 = some 50 := (FX_r cσ7 (show ¬ (c0 = c0 + 1) from by first | omega | (have ugc0 := un gc0; omega)) (show ¬ ((c0 = c0 ∧ 9 = 4) ∨ (c0 = c0 ∧ 9 = 11)) from by first | omega | (have ugc0 := un gc0; omega))).trans kr_13
            refine ⟨i_bool (by omega) (by omega), ?_⟩
            exact h9ret r8 σ7 mσ7 fσ7 (by omega) (by omega) (H0.trans H.symm)
          · intro q_14
            replace H := f_f q_14 H
            have b_19 : ¬ r5.toInt = 0 := fun h9 => q_14 (Int32.toInt_inj.mp h9)
            have t_20 : (x1 + (1 : Int32)).toInt = x1.toInt + 1 := i_add (x := x1) (y := (1 : Int32)) (by show (_ : Int) ≤ x1.toInt + 1; omega) (by show x1.toInt + 1 ≤ (_ : Int); omega)
            refine kF_X2_readsEither_r1 hc0 lc0 mσ4  (by omega) (by omega) (by first | with_reducible assumption | with_reducible rfl | omega | assumption | rfl) (fun r10 σ9 mσ9 cσ9 plσ9 phσ9 hσ9 => ?_)
            replace H := f_b hσ9 H
            have fσ9 : FX (fun id => id = c0 + 1) (fun id k => (id = c0 ∧ k = 4) ∨ (id = c0 ∧ k = 11)) σ0 σ9 := FX_tr fσ4 cσ9 (fun x (h9 : x = c0 + 1) => (show x = c0 + 1 from h9)) (fun x k (h9 : (x = c0 ∧ k = 4) ∨ (x = c0 ∧ k = 11)) => (show (x = c0 + 1) ∨ ((x = c0 ∧ k = 4) ∨ (x = c0 ∧ k = 11)) from h9.elim (fun e9 => Or.inr (show (x = c0 ∧ k = 4) ∨ (x = c0 ∧ k = 11) from Or.inl (e9))) (fun h9 => Or.inr (show (x = c0 ∧ k = 4) ∨ (x = c0 ∧ k = 11) from Or.inr (h9)))))
            have k_21 : (gi σ9 c0 10).toInt = (gi σ4 c0 10).toInt := congrArg Int32.toInt (FX_i cσ9 (show ¬ (c0 = c0 + 1) from by first | omega | (have ugc0 := un gc0; omega)) (show ¬ ((c0 = c0 ∧ 10 = 4) ∨ (c0 = c0 ∧ 10 = 11)) from by first | omega | (have ugc0 := un gc0; omega)))
            have t_22 := XI_c1 mσ9 (id := c0) (k := 11) (lim_F0_11 hc0)
            have kr_23 : gr σ9 c0 9 = some 50 := (FX_r cσ9 (show ¬ (c0 = c0 + 1) from by first | omega | (have ugc0 := un gc0; omega)) (show ¬ ((c0 = c0 ∧ 9 = 4) ∨ (c0 = c0 ∧ 9 = 11)) from by first | omega | (have ugc0 := un gc0; omega))).trans kr_13
            refine ⟨?_, ?_⟩
            · intro q_24
              replace H := f_t q_24 H
              have b_25 : r10.toInt = 0 := congrArg Int32.toInt q_24
              have z_26 : (0 : Int32).toInt = 0 := rfl
              exact h9ret (0 : Int32) σ9 mσ9 fσ9 (by omega) (by omega) (H0.trans H.symm)
            · intro q_24
              replace H := f_f q_24 H
              have b_27 : ¬ r10.toInt = 0 := fun h9 => q_24 (Int32.toInt_inj.mp h9)
              have z_28 : (41 : Int32).toInt = 41 := rfl
              refine kF_X2_takes hc0 lc0 mσ9  (by omega) (by omega) (by first | with_reducible assumption | with_reducible rfl | omega | assumption | rfl) (fun r13 σ12 mσ12 cσ12 plσ12 phσ12 hσ12 => ?_)
              replace H := f_b hσ12 H
              have fσ12 : FX (fun id => id = c0 + 1) (fun id k => (id = c0 ∧ k = 4) ∨ (id = c0 ∧ k = 11)) σ0 σ12 := FX_tr fσ9 cσ12 (fun _ h9 => h9.elim) (fun x k (h9 : (x = c0 ∧ k = 11)) => (show (x = c0 + 1) ∨ ((x = c0 ∧ k = 4) ∨ (x = c0 ∧ k = 11)) from Or.inr (show (x = c0 ∧ k = 4) ∨ (x = c0 ∧ k = 11) from Or.inr (h9))))
              have k_29 : (gi σ12 c0 10).toInt = (gi σ9 c0 10).toInt := congrArg Int32.toInt (FX_i cσ12 id (show ¬ ((c0 = c0 ∧ 10 = 11)) from by first | omega | (have ugc0 := un gc0; omega)))
              have t_30 := XI_c1 mσ12 (id := c0) (k := 11) (lim_F0_11 hc0)
              have kr_31 : gr σ12 c0 9 = some 50 := (FX_r cσ12 id (show ¬ ((c0 = c0 ∧ 9 = 11)) from by first | omega | (have ugc0 := un gc0; omega))).trans kr_23
              refine ⟨?_, ?_⟩
              · intro q_32
                replace H := f_t q_32 H
                have b_33 : r13.toInt = 0 := congrArg Int32.toInt q_32
                have z_34 : (0 : Int32).toInt = 0 := rfl
                exact h9ret (0 : Int32) σ12 mσ12 fσ12 (by omega) (by omega) (H0.trans H.symm)
              · intro q_32
                replace H := f_f q_32 H
                have b_35 : ¬ r13.toInt = 0 := fun h9 => q_32 (Int32.toInt_inj.mp h9)
                have z_36 : (1 : Int32).toInt = 1 := rfl
                exact h9ret (1 : Int32) σ12 mσ12 fσ12 (by omega) (by omega) (H0.trans H.symm)
  have U33 := T 9
  have f0 : FX (fun id => id = c0 + 1) (fun id k => (id = c0 ∧ k = 4) ∨ (id = c0 ∧ k = 11)) σ0 σ0 := FX_rf
  have t_37 := XI_c1 m0 (id := c0) (k := 10) (lim_F0_10 hc0)
  have t_38 := XI_c1 m0 (id := c0) (k := 11) (lim_F0_11 hc0)
  have H := H0
  unfold F_X2_readsPart_r0 at H
  refine s_X2_readsPart_r0_0 C hN hc0 lc0 ?_
  refine ⟨?_, ?_⟩
  · intro q_39
    replace H := f_t q_39 H
    have b_40 : (4 : Int) ≤ a1.toInt := Int32.le_iff_toInt_le.mp q_39
    exact U33 a1 σ0 m0 f0 (by omega) (by omega) H (by omega)
  · intro q_39
    replace H := f_f q_39 H
    have b_41 : ¬ (4 : Int) ≤ a1.toInt := fun h9 => q_39 (Int32.le_iff_toInt_le.mpr h9)
    have z_42 : (33 : Int32).toInt = 33 := rfl
    refine kF_X2_takes hc0 lc0 m0  (by omega) (by omega) (by first | with_reducible assumption | with_reducible rfl | omega | assumption | rfl) (fun r3 σ2 mσ2 cσ2 plσ2 phσ2 hσ2 => ?_)
    replace H := f_b hσ2 H
    have fσ2 : FX (fun id => id = c0 + 1) (fun id k => (id = c0 ∧ k = 4) ∨ (id = c0 ∧ k = 11)) σ0 σ2 := FX_tr f0 cσ2 (fun _ h9 => h9.elim) (fun x k (h9 : (x = c0 ∧ k = 11)) => (show (x = c0 + 1) ∨ ((x = c0 ∧ k = 4) ∨ (x = c0 ∧ k = 11)) from Or.inr (show (x = c0 ∧ k = 4) ∨ (x = c0 ∧ k = 11) from Or.inr (h9))))
    have k_43 : (gi σ2 c0 10).toInt = (gi σ0 c0 10).toInt := congrArg Int32.toInt (FX_i cσ2 id (show ¬ ((c0 = c0 ∧ 10 = 11)) from by first | omega | (have ugc0 := un gc0; omega)))
    have t_44 := XI_c1 mσ2 (id := c0) (k := 11) (lim_F0_11 hc0)
    have kr_45 : gr σ2 c0 9 = some 50 := (FX_r cσ2 id (show ¬ ((c0 = c0 ∧ 9 = 11)) from by first | omega | (have ugc0 := un gc0; omega))).trans pre0
    refine ⟨?_, ?_⟩
    · intro q_46
      replace H := f_t q_46 H
      have b_47 : r3.toInt = 0 := congrArg Int32.toInt q_46
      exact U33 a1 σ2 mσ2 fσ2 (by omega) (by omega) H (by omega)
    · intro q_46
      replace H := f_f q_46 H
      have b_48 : ¬ r3.toInt = 0 := fun h9 => q_46 (Int32.toInt_inj.mp h9)
      have t_49 : (a1 + (1 : Int32)).toInt = a1.toInt + 1 := i_add (x := a1) (y := (1 : Int32)) (by show (_ : Int) ≤ a1.toInt + 1; omega) (by show a1.toInt + 1 ≤ (_ : Int); omega)
      refine kF_X2_readsPart_r1 hc0 lc0 mσ2  (by omega) (by omega) (by first | with_reducible assumption | with_reducible rfl | omega | assumption | rfl) (fun r6 σ5 mσ5 cσ5 plσ5 phσ5 hσ5 => ?_)
      replace H := f_b hσ5 H
      have fσ5 : FX (fun id => id = c0 + 1) (fun id k => (id = c0 ∧ k = 4) ∨ (id = c0 ∧ k = 11)) σ0 σ5 := FX_tr fσ2 cσ5 (fun x (h9 : x = c0 + 1) => (show x = c0 + 1 from h9)) (fun x k (h9 : (x = c0 ∧ k = 4) ∨ (x = c0 ∧ k = 11)) => (show (x = c0 + 1) ∨ ((x = c0 ∧ k = 4) ∨ (x = c0 ∧ k = 11)) from h9.elim (fun e9 => Or.inr (show (x = c0 ∧ k = 4) ∨ (x = c0 ∧ k = 11) from Or.inl (e9))) (fun h9 => Or.inr (show (x = c0 ∧ k = 4) ∨ (x = c0 ∧ k = 11) from Or.inr (h9)))))
      have k_50 : (gi σ5 c0 10).toInt = (gi σ2 c0 10).toInt := congrArg Int32.toInt (FX_i cσ5 (show ¬ (c0 = c0 + 1) from by first | omega | (have ugc0 := un gc0; omega)) (show ¬ ((c0 = c0 ∧ 10 = 4) ∨ (c0 = c0 ∧ 10 = 11)) from by first | omega | (have ugc0 := un gc0; omega)))
      have t_51 := XI_c1 mσ5 (id := c0) (k := 11) (lim_F0_11 hc0)
      have kr_52 : gr σ5 c0 9 = some 50 := (FX_r cσ5 (show ¬ (c0 = c0 + 1) from by first | omega | (have ugc0 := un gc0; omega)) (show ¬ ((c0 = c0 ∧ 9 = 4) ∨ (c0 = c0 ∧ 9 = 11)) from by first | omega | (have ugc0 := un gc0; omega))).trans kr_45
      refine ⟨?_, ?_⟩
      · intro q_53
        replace H := f_f q_53 H
        have b_54 : ¬ r6.toInt = 0 := fun h9 => q_53 (Int32.toInt_inj.mp h9)
        have z_55 : (-1 : Int32).toInt = -1 := rfl
        refine kF_X2_writes hc0 lc0 mσ5  (by omega) (by omega) (fun σ8 mσ8 cσ8 hσ8 => ?_)
        replace H := f_v hσ8 H
        have fσ8 : FX (fun id => id = c0 + 1) (fun id k => (id = c0 ∧ k = 4) ∨ (id = c0 ∧ k = 11)) σ0 σ8 := FX_tr fσ5 cσ8 (fun x (h9 : x = c0 + 1) => (show x = c0 + 1 from h9)) (fun x k (h9 : (x = c0 ∧ k = 4)) => (show (x = c0 + 1) ∨ ((x = c0 ∧ k = 4) ∨ (x = c0 ∧ k = 11)) from Or.inr (show (x = c0 ∧ k = 4) ∨ (x = c0 ∧ k = 11) from Or.inl (h9))))
        have k_56 : (gi σ8 c0 10).toInt = (gi σ5 c0 10).toInt := congrArg Int32.toInt (FX_i cσ8 (show ¬ (c0 = c0 + 1) from by first | omega | (have ugc0 := un gc0; omega)) (show ¬ ((c0 = c0 ∧ 10 = 4)) from by first | omega | (have ugc0 := un gc0; omega)))
        have k_57 : (gi σ8 c0 11).toInt = (gi σ5 c0 11).toInt := congrArg Int32.toInt (FX_i cσ8 (show ¬ (c0 = c0 + 1) from by first | omega | (have ugc0 := un gc0; omega)) (show ¬ ((c0 = c0 ∧ 11 = 4)) from by first | omega | (have ugc0 := un gc0; omega)))
        have kr_58 : gr σ8 c0 9 = some 50 := (FX_r cσ8 (show ¬ (c0 = c0 + 1) from by first | omega | (have ugc0 := un gc0; omega)) (show ¬ ((c0 = c0 ∧ 9 = 4)) from by first | omega | (have ugc0 := un gc0; omega))).trans kr_52
        have z_59 : (1 : Int32).toInt = 1 := rfl
        exact h9ret (1 : Int32) σ8 mσ8 fσ8 (by omega) (by omega) (H0.trans H.symm)
      · intro q_53
        replace H := f_t q_53 H
        have b_60 : r6.toInt = 0 := congrArg Int32.toInt q_53
        have z_61 : (0 : Int32).toInt = 0 := rfl
        exact h9ret (0 : Int32) σ5 mσ5 fσ5 (by omega) (by omega) (H0.trans H.symm)
set_option maxRecDepth 100000 in
set_option maxHeartbeats 4000000 in
theorem kF_X2_readsBoth_r0 {l : Launch} {V : Vx} {c0 : Nat} {a1 : Int32} {σ0 : Sg} {Qk : Int32 → Sg → Prop} (hc0 : kd c0 = (12, 0)) (lc0 : c0 ∈ ids (V)) (m0 : XI V σ0) (l_a1 : 0 ≤ a1.toInt) (u_a1 : a1.toInt ≤ 0) (pre0 : gr σ0 c0 9 = some 50) (h9ret : ∀ (r : Int32) (σ' : Sg), XI V σ' → FX (fun id => id = c0 + 1) (fun id k => (id = c0 ∧ k = 4) ∨ (id = c0 ∧ k = 11)) σ0 σ' → (0 ≤ r.toInt) → (r.toInt ≤ 1) → (F_X2_readsBoth_r0 c0 a1 σ0 = (r, σ')) → Qk r σ') : K_X2_readsBoth_r0 l V c0 a1 σ0 Qk := by
  refine e_X2_readsBoth_r0 (fun M hl hV hN C => ?_)
  subst hl
  subst hV
  obtain ⟨R9, H0⟩ : ∃ R9, F_X2_readsBoth_r0 c0 a1 σ0 = R9 := ⟨_, rfl⟩
  have gc0 : hid _ := kdF_ge hc0
  have T : ∀ n : Nat, (∀ (x1 : Int32) (x2 : Int32) (σ : Sg), XI (mV M) σ → FX (fun id => id = c0 + 1) (fun id k => (id = c0 ∧ k = 4) ∨ (id = c0 ∧ k = 11)) σ0 σ → (0 ≤ x1.toInt) → (x1.toInt ≤ 0) → (0 ≤ x2.toInt) → (x2.toInt ≤ 100) → (LF_X2_readsBoth_r0 c0 n x1 x2 σ = R9) → (101 - x2.toInt).toNat < n → PS M 12 [(0, .ref c0), (1, .int x1), (2, .int x2)] [] σ (0, 0)) := by
    intro n
    induction n with
    | zero => exact fun _ _ _ _ _ _ _ _ _ _ h8 => absurd h8 (Nat.not_lt_zero _)
    | succ n ih =>
      have ih12 := ih
      · intro x1 x2 σ mσ fσ lx1 ux1 lx2 ux2 H hmu
        replace H : LB_X2_readsBoth_r0_12 c0 (LF_X2_readsBoth_r0 c0 n) x1 x2 σ = R9 := H
        unfold LB_X2_readsBoth_r0_12 at H
        have kr_c0_9 : gr σ c0 9 = some 50 := (FX_r fσ (show ¬ (c0 = c0 + 1) from by first | omega | (have ugc0 := un gc0; omega)) (show ¬ ((c0 = c0 ∧ 9 = 4) ∨ (c0 = c0 ∧ 9 = 11)) from by first | omega | (have ugc0 := un gc0; omega))).trans pre0
        have k_1 : (gi σ c0 10).toInt = (gi σ0 c0 10).toInt := congrArg Int32.toInt (FX_i fσ (show ¬ (c0 = c0 + 1) from by first | omega | (have ugc0 := un gc0; omega)) (show ¬ ((c0 = c0 ∧ 10 = 4) ∨ (c0 = c0 ∧ 10 = 11)) from by first | omega | (have ugc0 := un gc0; omega)))
        have t_2 := XI_c1 mσ (id := c0) (k := 10) (lim_F0_10 hc0)
        have t_3 := XI_c1 mσ (id := c0) (k := 11) (lim_F0_11 hc0)
        refine s_X2_readsBoth_r0_12 C hN hc0 lc0 ?_
        refine ⟨?_, ?_⟩
        · intro q_4
          replace H := f_t q_4 H
          have b_5 : (100 : Int) ≤ x2.toInt := Int32.le_iff_toInt_le.mp q_4
          have z_6 : (1 : Int32).toInt = 1 := rfl
          exact h9ret (1 : Int32) σ mσ fσ (by omega) (by omega) (H0.trans H.symm)
        · intro q_4
          replace H := f_f q_4 H
          have b_7 : ¬ (100 : Int) ≤ x2.toInt := fun h9 => q_4 (Int32.le_iff_toInt_le.mpr h9)
          have z_8 : (38 : Int32).toInt = 38 := rfl
          refine kF_X2_takes hc0 lc0 mσ  (by omega) (by omega) (by first | with_reducible assumption | with_reducible rfl | omega | assumption | rfl) (fun r3 σ2 mσ2 cσ2 plσ2 phσ2 hσ2 => ?_)
          replace H := f_b hσ2 H
          have fσ2 : FX (fun id => id = c0 + 1) (fun id k => (id = c0 ∧ k = 4) ∨ (id = c0 ∧ k = 11)) σ0 σ2 := FX_tr fσ cσ2 (fun _ h9 => h9.elim) (fun x k (h9 : (x = c0 ∧ k = 11)) => (show (x = c0 + 1) ∨ ((x = c0 ∧ k = 4) ∨ (x = c0 ∧ k = 11)) from Or.inr (show (x = c0 ∧ k = 4) ∨ (x = c0 ∧ k = 11) from Or.inr (h9))))
          have k_9 : (gi σ2 c0 10).toInt = (gi σ c0 10).toInt := congrArg Int32.toInt (FX_i cσ2 id (show ¬ ((c0 = c0 ∧ 10 = 11)) from by first | omega | (have ugc0 := un gc0; omega)))
          have t_10 := XI_c1 mσ2 (id := c0) (k := 11) (lim_F0_11 hc0)
          have kr_11 : gr σ2 c0 9 = some 50 := (FX_r cσ2 id (show ¬ ((c0 = c0 ∧ 9 = 11)) from by first | omega | (have ugc0 := un gc0; omega))).trans kr_c0_9
          refine ⟨?_, ?_⟩
          · intro q_12
            replace H := f_t q_12 H
            have b_13 : r3.toInt = 0 := congrArg Int32.toInt q_12
            have z_14 : (1 : Int32).toInt = 1 := rfl
            exact h9ret (1 : Int32) σ2 mσ2 fσ2 (by omega) (by omega) (H0.trans H.symm)
          · intro q_12
            replace H := f_f q_12 H
            have b_15 : ¬ r3.toInt = 0 := fun h9 => q_12 (Int32.toInt_inj.mp h9)
            refine kF_X2_readsPart_r0 hc0 lc0 mσ2  (by omega) (by omega) (by first | with_reducible assumption | with_reducible rfl | omega | assumption | rfl) (fun r6 σ5 mσ5 cσ5 plσ5 phσ5 hσ5 => ?_)
            replace H := f_b hσ5 H
            have fσ5 : FX (fun id => id = c0 + 1) (fun id k => (id = c0 ∧ k = 4) ∨ (id = c0 ∧ k = 11)) σ0 σ5 := FX_tr fσ2 cσ5 (fun x (h9 : x = c0 + 1) => (show x = c0 + 1 from h9)) (fun x k (h9 : (x = c0 ∧ k = 4) ∨ (x = c0 ∧ k = 11)) => (show (x = c0 + 1) ∨ ((x = c0 ∧ k = 4) ∨ (x = c0 ∧ k = 11)) from h9.elim (fun e9 => Or.inr (show (x = c0 ∧ k = 4) ∨ (x = c0 ∧ k = 11) from Or.inl (e9))) (fun h9 => Or.inr (show (x = c0 ∧ k = 4) ∨ (x = c0 ∧ k = 11) from Or.inr (h9)))))
            have k_16 : (gi σ5 c0 10).toInt = (gi σ2 c0 10).toInt := congrArg Int32.toInt (FX_i cσ5 (show ¬ (c0 = c0 + 1) from by first | omega | (have ugc0 := un gc0; omega)) (show ¬ ((c0 = c0 ∧ 10 = 4) ∨ (c0 = c0 ∧ 10 = 11)) from by first | omega | (have ugc0 := un gc0; omega)))
            have t_17 := XI_c1 mσ5 (id := c0) (k := 11) (lim_F0_11 hc0)
            have kr_18 : gr σ5 c0 9 = some 50 := (FX_r cσ5 (show ¬ (c0 = c0 + 1) from by first | omega | (have ugc0 := un gc0; omega)) (show ¬ ((c0 = c0 ∧ 9 = 4) ∨ (c0 = c0 ∧ 9 = 11)) from by first | omega | (have ugc0 := un gc0; omega))).trans kr_11
            refine ⟨?_, ?_⟩
            · intro q_19
              replace H := f_f q_19 H
              have b_20 : ¬ r6.toInt = 0 := fun h9 => q_19 (Int32.toInt_inj.mp h9)
              have z_21 : (-2 : Int32).toInt = -2 := rfl
              refine kF_X2_writes hc0 lc0 mσ5  (by omega) (by omega) (fun σ8 mσ8 cσ8 hσ8 => ?_)
              replace H := f_v hσ8 H
              have fσ8 : FX (fun id => id = c0 + 1) (fun id k => (id = c0 ∧ k = 4) ∨ (id = c0 ∧ k = 11)) σ0 σ8 := FX_tr fσ5 cσ8 (fun x (h9 : x = c0 + 1) => (show x = c0 + 1 from h9)) (fun x k (h9 : (x = c0 ∧ k = 4)) => (show (x = c0 + 1) ∨ ((x = c0 ∧ k = 4) ∨ (x = c0 ∧ k = 11)) from Or.inr (show (x = c0 ∧ k = 4) ∨ (x = c0 ∧ k = 11) from Or.inl (h9))))
              have k_22 : (gi σ8 c0 10).toInt = (gi σ5 c0 10).toInt := congrArg Int32.toInt (FX_i cσ8 (show ¬ (c0 = c0 + 1) from by first | omega | (have ugc0 := un gc0; omega)) (show ¬ ((c0 = c0 ∧ 10 = 4)) from by first | omega | (have ugc0 := un gc0; omega)))
              have k_23 : (gi σ8 c0 11).toInt = (gi σ5 c0 11).toInt := congrArg Int32.toInt (FX_i cσ8 (show ¬ (c0 = c0 + 1) from by first | omega | (have ugc0 := un gc0; omega)) (show ¬ ((c0 = c0 ∧ 11 = 4)) from by first | omega | (have ugc0 := un gc0; omega)))
              have kr_24 : gr σ8 c0 9 = some 50 := (FX_r cσ8 (show ¬ (c0 = c0 + 1) from by first | omega | (have ugc0 := un gc0; omega)) (show ¬ ((c0 = c0 ∧ 9 = 4)) from by first | omega | (have ugc0 := un gc0; omega))).trans kr_18
              intro v9 ev9
              replace H := f_l ev9 H
              have t_25 : (x2 + (1 : Int32)).toInt = x2.toInt + 1 := i_add (x := x2) (y := (1 : Int32)) (by show (_ : Int) ≤ x2.toInt + 1; omega) (by show x2.toInt + 1 ≤ (_ : Int); omega)
              have t_26 : v9.toInt = (x2 + (1 : Int32)).toInt := congrArg Int32.toInt ev9
              exact ih12 x1 v9 σ8 mσ8 fσ8 (by omega) (by omega) (by omega) (by omega) H (by omega)
            · intro q_19
              replace H := f_t q_19 H
              have b_27 : r6.toInt = 0 := congrArg Int32.toInt q_19
              have z_28 : (0 : Int32).toInt = 0 := rfl
              exact h9ret (0 : Int32) σ5 mσ5 fσ5 (by omega) (by omega) (H0.trans H.symm)
  have U12 := T 200
  have f0 : FX (fun id => id = c0 + 1) (fun id k => (id = c0 ∧ k = 4) ∨ (id = c0 ∧ k = 11)) σ0 σ0 := FX_rf
  have t_29 := XI_c1 m0 (id := c0) (k := 10) (lim_F0_10 hc0)
  have t_30 := XI_c1 m0 (id := c0) (k := 11) (lim_F0_11 hc0)
  have H := H0
  unfold F_X2_readsBoth_r0 at H
  refine s_X2_readsBoth_r0_0 C hN hc0 lc0 ?_
  refine kF_X2_readsPart_r0 hc0 lc0 m0  (by omega) (by omega) (by first | with_reducible assumption | with_reducible rfl | omega | assumption | rfl) (fun r2 σ1 mσ1 cσ1 plσ1 phσ1 hσ1 => ?_)
  replace H := f_b hσ1 H
  have fσ1 : FX (fun id => id = c0 + 1) (fun id k => (id = c0 ∧ k = 4) ∨ (id = c0 ∧ k = 11)) σ0 σ1 := FX_tr f0 cσ1 (fun x (h9 : x = c0 + 1) => (show x = c0 + 1 from h9)) (fun x k (h9 : (x = c0 ∧ k = 4) ∨ (x = c0 ∧ k = 11)) => (show (x = c0 + 1) ∨ ((x = c0 ∧ k = 4) ∨ (x = c0 ∧ k = 11)) from h9.elim (fun e9 => Or.inr (show (x = c0 ∧ k = 4) ∨ (x = c0 ∧ k = 11) from Or.inl (e9))) (fun h9 => Or.inr (show (x = c0 ∧ k = 4) ∨ (x = c0 ∧ k = 11) from Or.inr (h9)))))
  have k_31 : (gi σ1 c0 10).toInt = (gi σ0 c0 10).toInt := congrArg Int32.toInt (FX_i cσ1 (show ¬ (c0 = c0 + 1) from by first | omega | (have ugc0 := un gc0; omega)) (show ¬ ((c0 = c0 ∧ 10 = 4) ∨ (c0 = c0 ∧ 10 = 11)) from by first | omega | (have ugc0 := un gc0; omega)))
  have t_32 := XI_c1 mσ1 (id := c0) (k := 11) (lim_F0_11 hc0)
  have kr_33 : gr σ1 c0 9 = some 50 := (FX_r cσ1 (show ¬ (c0 = c0 + 1) from by first | omega | (have ugc0 := un gc0; omega)) (show ¬ ((c0 = c0 ∧ 9 = 4) ∨ (c0 = c0 ∧ 9 = 11)) from by first | omega | (have ugc0 := un gc0; omega))).trans pre0
  refine ⟨?_, ?_⟩
  · intro q_34
    replace H := f_f q_34 H
    have b_35 : ¬ r2.toInt = 0 := fun h9 => q_34 (Int32.toInt_inj.mp h9)
    have z_36 : (0 : Int32).toInt = 0 := rfl
    exact U12 a1 (0 : Int32) σ1 mσ1 fσ1 (by omega) (by omega) (by omega) (by omega) H (by omega)
  · intro q_34
    replace H := f_t q_34 H
    have b_37 : r2.toInt = 0 := congrArg Int32.toInt q_34
    have z_38 : (0 : Int32).toInt = 0 := rfl
    exact h9ret (0 : Int32) σ1 mσ1 fσ1 (by omega) (by omega) (H0.trans H.symm)
set_option maxRecDepth 100000 in
set_option maxHeartbeats 4000000 in
theorem kF_X2_readsEither_r0 {l : Launch} {V : Vx} {c0 : Nat} {a1 : Int32} {σ0 : Sg} {Qk : Int32 → Sg → Prop} (hc0 : kd c0 = (12, 0)) (lc0 : c0 ∈ ids (V)) (m0 : XI V σ0) (l_a1 : 0 ≤ a1.toInt) (u_a1 : a1.toInt ≤ 0) (pre0 : gr σ0 c0 9 = some 50) (h9ret : ∀ (r : Int32) (σ' : Sg), XI V σ' → FX (fun id => id = c0 + 1) (fun id k => (id = c0 ∧ k = 4) ∨ (id = c0 ∧ k = 11)) σ0 σ' → (0 ≤ r.toInt) → (r.toInt ≤ 1) → (F_X2_readsEither_r0 c0 a1 σ0 = (r, σ')) → Qk r σ') : K_X2_readsEither_r0 l V c0 a1 σ0 Qk := by
  refine e_X2_readsEither_r0 (fun M hl hV hN C => ?_)
  subst hl
  subst hV
  obtain ⟨R9, H0⟩ : ∃ R9, F_X2_readsEither_r0 c0 a1 σ0 = R9 := ⟨_, rfl⟩
  have gc0 : hid _ := kdF_ge hc0
  have T : ∀ n : Nat, (∀ (x1 : Int32) (x2 : Int32) (σ : Sg), XI (mV M) σ → FX (fun id => id = c0 + 1) (fun id k => (id = c0 ∧ k = 4) ∨ (id = c0 ∧ k = 11)) σ0 σ → (0 ≤ x1.toInt) → (x1.toInt ≤ 0) → (0 ≤ x2.toInt) → (x2.toInt ≤ 100) → (LF_X2_readsEither_r0 c0 n x1 x2 σ = R9) → (101 - x2.toInt).toNat < n → PS M 12 [(0, .ref c0), (1, .int x1), (2, .int x2)] [] σ (0, 0)) := by
    intro n
    induction n with
    | zero => exact fun _ _ _ _ _ _ _ _ _ _ h8 => absurd h8 (Nat.not_lt_zero _)
    | succ n ih =>
      have ih12 := ih
      · intro x1 x2 σ mσ fσ lx1 ux1 lx2 ux2 H hmu
        replace H : LB_X2_readsEither_r0_12 c0 (LF_X2_readsEither_r0 c0 n) x1 x2 σ = R9 := H
        unfold LB_X2_readsEither_r0_12 at H
        have kr_c0_9 : gr σ c0 9 = some 50 := (FX_r fσ (show ¬ (c0 = c0 + 1) from by first | omega | (have ugc0 := un gc0; omega)) (show ¬ ((c0 = c0 ∧ 9 = 4) ∨ (c0 = c0 ∧ 9 = 11)) from by first | omega | (have ugc0 := un gc0; omega))).trans pre0
        have k_1 : (gi σ c0 10).toInt = (gi σ0 c0 10).toInt := congrArg Int32.toInt (FX_i fσ (show ¬ (c0 = c0 + 1) from by first | omega | (have ugc0 := un gc0; omega)) (show ¬ ((c0 = c0 ∧ 10 = 4) ∨ (c0 = c0 ∧ 10 = 11)) from by first | omega | (have ugc0 := un gc0; omega)))
        have t_2 := XI_c1 mσ (id := c0) (k := 10) (lim_F0_10 hc0)
        have t_3 := XI_c1 mσ (id := c0) (k := 11) (lim_F0_11 hc0)
        refine s_X2_readsEither_r0_12 C hN hc0 lc0 ?_
        refine ⟨?_, ?_⟩
        · intro q_4
          replace H := f_t q_4 H
          have b_5 : (100 : Int) ≤ x2.toInt := Int32.le_iff_toInt_le.mp q_4
          have z_6 : (1 : Int32).toInt = 1 := rfl
          exact h9ret (1 : Int32) σ mσ fσ (by omega) (by omega) (H0.trans H.symm)
        · intro q_4
          replace H := f_f q_4 H
          have b_7 : ¬ (100 : Int) ≤ x2.toInt := fun h9 => q_4 (Int32.le_iff_toInt_le.mpr h9)
          have z_8 : (124 : Int32).toInt = 124 := rfl
          refine kF_X2_takes hc0 lc0 mσ  (by omega) (by omega) (by first | with_reducible assumption | with_reducible rfl | omega | assumption | rfl) (fun r3 σ2 mσ2 cσ2 plσ2 phσ2 hσ2 => ?_)
          replace H := f_b hσ2 H
          have fσ2 : FX (fun id => id = c0 + 1) (fun id k => (id = c0 ∧ k = 4) ∨ (id = c0 ∧ k = 11)) σ0 σ2 := FX_tr fσ cσ2 (fun _ h9 => h9.elim) (fun x k (h9 : (x = c0 ∧ k = 11)) => (show (x = c0 + 1) ∨ ((x = c0 ∧ k = 4) ∨ (x = c0 ∧ k = 11)) from Or.inr (show (x = c0 ∧ k = 4) ∨ (x = c0 ∧ k = 11) from Or.inr (h9))))
          have k_9 : (gi σ2 c0 10).toInt = (gi σ c0 10).toInt := congrArg Int32.toInt (FX_i cσ2 id (show ¬ ((c0 = c0 ∧ 10 = 11)) from by first | omega | (have ugc0 := un gc0; omega)))
          have t_10 := XI_c1 mσ2 (id := c0) (k := 11) (lim_F0_11 hc0)
          have kr_11 : gr σ2 c0 9 = some 50 := (FX_r cσ2 id (show ¬ ((c0 = c0 ∧ 9 = 11)) from by first | omega | (have ugc0 := un gc0; omega))).trans kr_c0_9
          refine ⟨?_, ?_⟩
          · intro q_12
            replace H := f_t q_12 H
            have b_13 : r3.toInt = 0 := congrArg Int32.toInt q_12
            have z_14 : (1 : Int32).toInt = 1 := rfl
            exact h9ret (1 : Int32) σ2 mσ2 fσ2 (by omega) (by omega) (H0.trans H.symm)
          · intro q_12
            replace H := f_f q_12 H
            have b_15 : ¬ r3.toInt = 0 := fun h9 => q_12 (Int32.toInt_inj.mp h9)
            refine kF_X2_readsBoth_r0 hc0 lc0 mσ2  (by omega) (by omega) (by first | with_reducible assumption | with_reducible rfl | omega | assumption | rfl) (fun r6 σ5 mσ5 cσ5 plσ5 phσ5 hσ5 => ?_)
            replace H := f_b hσ5 H
            have fσ5 : FX (fun id => id = c0 + 1) (fun id k => (id = c0 ∧ k = 4) ∨ (id = c0 ∧ k = 11)) σ0 σ5 := FX_tr fσ2 cσ5 (fun x (h9 : x = c0 + 1) => (show x = c0 + 1 from h9)) (fun x k (h9 : (x = c0 ∧ k = 4) ∨ (x = c0 ∧ k = 11)) => (show (x = c0 + 1) ∨ ((x = c0 ∧ k = 4) ∨ (x = c0 ∧ k = 11)) from h9.elim (fun e9 => Or.inr (show (x = c0 ∧ k = 4) ∨ (x = c0 ∧ k = 11) from Or.inl (e9))) (fun h9 => Or.inr (show (x = c0 ∧ k = 4) ∨ (x = c0 ∧ k = 11) from Or.inr (h9)))))
            have k_16 : (gi σ5 c0 10).toInt = (gi σ2 c0 10).toInt := congrArg Int32.toInt (FX_i cσ5 (show ¬ (c0 = c0 + 1) from by first | omega | (have ugc0 := un gc0; omega)) (show ¬ ((c0 = c0 ∧ 10 = 4) ∨ (c0 = c0 ∧ 10 = 11)) from by first | omega | (have ugc0 := un gc0; omega)))
            have t_17 := XI_c1 mσ5 (id := c0) (k := 11) (lim_F0_11 hc0)
            have kr_18 : gr σ5 c0 9 = some 50 := (FX_r cσ5 (show ¬ (c0 = c0 + 1) from by first | omega | (have ugc0 := un gc0; omega)) (show ¬ ((c0 = c0 ∧ 9 = 4) ∨ (c0 = c0 ∧ 9 = 11)) from by first | omega | (have ugc0 := un gc0; omega))).trans kr_11
            refine ⟨?_, ?_⟩
            · intro q_19
              replace H := f_f q_19 H
              have b_20 : ¬ r6.toInt = 0 := fun h9 => q_19 (Int32.toInt_inj.mp h9)
              have z_21 : (-3 : Int32).toInt = -3 := rfl
              refine kF_X2_writes hc0 lc0 mσ5  (by omega) (by omega) (fun σ8 mσ8 cσ8 hσ8 => ?_)
              replace H := f_v hσ8 H
              have fσ8 : FX (fun id => id = c0 + 1) (fun id k => (id = c0 ∧ k = 4) ∨ (id = c0 ∧ k = 11)) σ0 σ8 := FX_tr fσ5 cσ8 (fun x (h9 : x = c0 + 1) => (show x = c0 + 1 from h9)) (fun x k (h9 : (x = c0 ∧ k = 4)) => (show (x = c0 + 1) ∨ ((x = c0 ∧ k = 4) ∨ (x = c0 ∧ k = 11)) from Or.inr (show (x = c0 ∧ k = 4) ∨ (x = c0 ∧ k = 11) from Or.inl (h9))))
              have k_22 : (gi σ8 c0 10).toInt = (gi σ5 c0 10).toInt := congrArg Int32.toInt (FX_i cσ8 (show ¬ (c0 = c0 + 1) from by first | omega | (have ugc0 := un gc0; omega)) (show ¬ ((c0 = c0 ∧ 10 = 4)) from by first | omega | (have ugc0 := un gc0; omega)))
              have k_23 : (gi σ8 c0 11).toInt = (gi σ5 c0 11).toInt := congrArg Int32.toInt (FX_i cσ8 (show ¬ (c0 = c0 + 1) from by first | omega | (have ugc0 := un gc0; omega)) (show ¬ ((c0 = c0 ∧ 11 = 4)) from by first | omega | (have ugc0 := un gc0; omega)))
              have kr_24 : gr σ8 c0 9 = some 50 := (FX_r cσ8 (show ¬ (c0 = c0 + 1) from by first | omega | (have ugc0 := un gc0; omega)) (show ¬ ((c0 = c0 ∧ 9 = 4)) from by first | omega | (have ugc0 := un gc0; omega))).trans kr_18
              intro v9 ev9
              replace H := f_l ev9 H
              have t_25 : (x2 + (1 : Int32)).toInt = x2.toInt + 1 := i_add (x := x2) (y := (1 : Int32)) (by show (_ : Int) ≤ x2.toInt + 1; omega) (by show x2.toInt + 1 ≤ (_ : Int); omega)
              have t_26 : v9.toInt = (x2 + (1 : Int32)).toInt := congrArg Int32.toInt ev9
              exact ih12 x1 v9 σ8 mσ8 fσ8 (by omega) (by omega) (by omega) (by omega) H (by omega)
            · intro q_19
              replace H := f_t q_19 H
              have b_27 : r6.toInt = 0 := congrArg Int32.toInt q_19
              have z_28 : (0 : Int32).toInt = 0 := rfl
              exact h9ret (0 : Int32) σ5 mσ5 fσ5 (by omega) (by omega) (H0.trans H.symm)
  have U12 := T 200
  have f0 : FX (fun id => id = c0 + 1) (fun id k => (id = c0 ∧ k = 4) ∨ (id = c0 ∧ k = 11)) σ0 σ0 := FX_rf
  have t_29 := XI_c1 m0 (id := c0) (k := 10) (lim_F0_10 hc0)
  have t_30 := XI_c1 m0 (id := c0) (k := 11) (lim_F0_11 hc0)
  have H := H0
  unfold F_X2_readsEither_r0 at H
  refine s_X2_readsEither_r0_0 C hN hc0 lc0 ?_
  refine kF_X2_readsBoth_r0 hc0 lc0 m0  (by omega) (by omega) (by first | with_reducible assumption | with_reducible rfl | omega | assumption | rfl) (fun r2 σ1 mσ1 cσ1 plσ1 phσ1 hσ1 => ?_)
  replace H := f_b hσ1 H
  have fσ1 : FX (fun id => id = c0 + 1) (fun id k => (id = c0 ∧ k = 4) ∨ (id = c0 ∧ k = 11)) σ0 σ1 := FX_tr f0 cσ1 (fun x (h9 : x = c0 + 1) => (show x = c0 + 1 from h9)) (fun x k (h9 : (x = c0 ∧ k = 4) ∨ (x = c0 ∧ k = 11)) => (show (x = c0 + 1) ∨ ((x = c0 ∧ k = 4) ∨ (x = c0 ∧ k = 11)) from h9.elim (fun e9 => Or.inr (show (x = c0 ∧ k = 4) ∨ (x = c0 ∧ k = 11) from Or.inl (e9))) (fun h9 => Or.inr (show (x = c0 ∧ k = 4) ∨ (x = c0 ∧ k = 11) from Or.inr (h9)))))
  have k_31 : (gi σ1 c0 10).toInt = (gi σ0 c0 10).toInt := congrArg Int32.toInt (FX_i cσ1 (show ¬ (c0 = c0 + 1) from by first | omega | (have ugc0 := un gc0; omega)) (show ¬ ((c0 = c0 ∧ 10 = 4) ∨ (c0 = c0 ∧ 10 = 11)) from by first | omega | (have ugc0 := un gc0; omega)))
  have t_32 := XI_c1 mσ1 (id := c0) (k := 11) (lim_F0_11 hc0)
  have kr_33 : gr σ1 c0 9 = some 50 := (FX_r cσ1 (show ¬ (c0 = c0 + 1) from by first | omega | (have ugc0 := un gc0; omega)) (show ¬ ((c0 = c0 ∧ 9 = 4) ∨ (c0 = c0 ∧ 9 = 11)) from by first | omega | (have ugc0 := un gc0; omega))).trans pre0
  refine ⟨?_, ?_⟩
  · intro q_34
    replace H := f_f q_34 H
    have b_35 : ¬ r2.toInt = 0 := fun h9 => q_34 (Int32.toInt_inj.mp h9)
    have z_36 : (0 : Int32).toInt = 0 := rfl
    exact U12 a1 (0 : Int32) σ1 mσ1 fσ1 (by omega) (by omega) (by omega) (by omega) H (by omega)
  · intro q_34
    replace H := f_t q_34 H
    have b_37 : r2.toInt = 0 := congrArg Int32.toInt q_34
    have z_38 : (0 : Int32).toInt = 0 := rfl
    exact h9ret (0 : Int32) σ1 mσ1 fσ1 (by omega) (by omega) (H0.trans H.symm)
set_option maxRecDepth 100000 in
set_option maxHeartbeats 4000000 in
theorem kF_X2_readsClause {l : Launch} {V : Vx} {c0 : Nat} {σ0 : Sg} {Qk : Int32 → Sg → Prop} (hc0 : kd c0 = (12, 0)) (lc0 : c0 ∈ ids (V)) (m0 : XI V σ0) (pre0 : gr σ0 c0 9 = some 50) (h9ret : ∀ (r : Int32) (σ' : Sg), XI V σ' → FX (fun id => id = c0 + 1 ∨ id = c0 + 2 ∨ id = c0 + 3 ∨ id = c0 + 4) (fun id k => (id = c0 ∧ k = 0) ∨ (id = c0 ∧ k = 1) ∨ (id = c0 ∧ k = 2) ∨ (id = c0 ∧ k = 4) ∨ (id = c0 ∧ k = 8) ∨ (id = c0 ∧ k = 11)) σ0 σ' → (0 ≤ r.toInt) → (r.toInt ≤ 1) → (F_X2_readsClause c0 σ0 = (r, σ')) → Qk r σ') : K_X2_readsClause l V c0 σ0 Qk := by
  refine e_X2_readsClause (fun M hl hV hN C => ?_)
  subst hl
  subst hV
  obtain ⟨R9, H0⟩ : ∃ R9, F_X2_readsClause c0 σ0 = R9 := ⟨_, rfl⟩
  have gc0 : hid _ := kdF_ge hc0
  have z60 : (slen 0 : Int) = 5 := rfl
  have z66 : (slen 6 : Int) = 6 := rfl
  have z67 : (slen 7 : Int) = 3 := rfl
  have f0 : FX (fun id => id = c0 + 1 ∨ id = c0 + 2 ∨ id = c0 + 3 ∨ id = c0 + 4) (fun id k => (id = c0 ∧ k = 0) ∨ (id = c0 ∧ k = 1) ∨ (id = c0 ∧ k = 2) ∨ (id = c0 ∧ k = 4) ∨ (id = c0 ∧ k = 8) ∨ (id = c0 ∧ k = 11)) σ0 σ0 := FX_rf
  have t_1 := XI_c1 m0 (id := c0) (k := 10) (lim_F0_10 hc0)
  have t_2 := XI_c1 m0 (id := c0) (k := 11) (lim_F0_11 hc0)
  have H := H0
  unfold F_X2_readsClause at H
  refine s_X2_readsClause_0 C hN hc0 lc0 ?_
  have z_3 : (0 : Int32).toInt = 0 := rfl
  refine kF_X2_signAmong hc0 lc0 (by decide +kernel) m0  (by first | with_reducible assumption | with_reducible rfl | omega | assumption | rfl) (fun r2 σ1 mσ1 cσ1 plσ1 phσ1 (pσ1_0 : r2.toInt = -1 ∨ (0 ≤ r2.toInt ∧ r2.toInt < (slen 0 : Int) ∧ 0 ≤ (sgn σ0 c0).toInt)) hσ1 => ?_)
  obtain rfl := FX_nil cσ1
  replace H := f_b hσ1 H
  refine ⟨?_, ?_⟩
  · intro q_4
    replace H := f_t q_4 H
    have b_5 : r2.toInt < 0 := Int32.lt_iff_toInt_lt.mp q_4
    exact h9ret (0 : Int32) σ0 m0 f0 (by omega) (by omega) (H0.trans H.symm)
  · intro q_4
    replace H := f_f q_4 H
    have b_6 : ¬ r2.toInt < 0 := fun h9 => q_4 (Int32.lt_iff_toInt_lt.mpr h9)
    refine kF_X2_readsWord hc0 lc0 m0  (by first | with_reducible assumption | with_reducible rfl | omega | assumption | rfl) (fun r5 σ4 mσ4 cσ4 plσ4 phσ4 hσ4 => ?_)
    replace H := f_b hσ4 H
    have fσ4 : FX (fun id => id = c0 + 1 ∨ id = c0 + 2 ∨ id = c0 + 3 ∨ id = c0 + 4) (fun id k => (id = c0 ∧ k = 0) ∨ (id = c0 ∧ k = 1) ∨ (id = c0 ∧ k = 2) ∨ (id = c0 ∧ k = 4) ∨ (id = c0 ∧ k = 8) ∨ (id = c0 ∧ k = 11)) σ0 σ4 := FX_tr f0 cσ4 (fun _ h9 => h9.elim) (fun x k (h9 : (x = c0 ∧ k = 11)) => (show (x = c0 + 1 ∨ x = c0 + 2 ∨ x = c0 + 3 ∨ x = c0 + 4) ∨ ((x = c0 ∧ k = 0) ∨ (x = c0 ∧ k = 1) ∨ (x = c0 ∧ k = 2) ∨ (x = c0 ∧ k = 4) ∨ (x = c0 ∧ k = 8) ∨ (x = c0 ∧ k = 11)) from Or.inr (show (x = c0 ∧ k = 0) ∨ (x = c0 ∧ k = 1) ∨ (x = c0 ∧ k = 2) ∨ (x = c0 ∧ k = 4) ∨ (x = c0 ∧ k = 8) ∨ (x = c0 ∧ k = 11) from Or.inr (Or.inr (Or.inr (Or.inr (Or.inr (h9))))))))
    have k_7 : (gi σ4 c0 10).toInt = (gi σ0 c0 10).toInt := congrArg Int32.toInt (FX_i cσ4 id (show ¬ ((c0 = c0 ∧ 10 = 11)) from by first | omega | (have ugc0 := un gc0; omega)))
    have t_8 := XI_c1 mσ4 (id := c0) (k := 11) (lim_F0_11 hc0)
    have kr_9 : gr σ4 c0 9 = some 50 := (FX_r cσ4 id (show ¬ ((c0 = c0 ∧ 9 = 11)) from by first | omega | (have ugc0 := un gc0; omega))).trans pre0
    refine ⟨?_, ?_⟩
    · intro q_10
      replace H := f_f q_10 H
      have b_11 : ¬ r5.toInt = 0 := fun h9 => q_10 (Int32.toInt_inj.mp h9)
      refine kF_X2_readsNumber hc0 lc0 mσ4  (by first | with_reducible assumption | with_reducible rfl | omega | assumption | rfl) (fun r8 σ7 mσ7 cσ7 plσ7 phσ7 hσ7 => ?_)
      replace H := f_b hσ7 H
      have fσ7 : FX (fun id => id = c0 + 1 ∨ id = c0 + 2 ∨ id = c0 + 3 ∨ id = c0 + 4) (fun id k => (id = c0 ∧ k = 0) ∨ (id = c0 ∧ k = 1) ∨ (id = c0 ∧ k = 2) ∨ (id = c0 ∧ k = 4) ∨ (id = c0 ∧ k = 8) ∨ (id = c0 ∧ k = 11)) σ0 σ7 := FX_tr fσ4 cσ7 (fun _ h9 => h9.elim) (fun x k (h9 : (x = c0 ∧ k = 11)) => (show (x = c0 + 1 ∨ x = c0 + 2 ∨ x = c0 + 3 ∨ x = c0 + 4) ∨ ((x = c0 ∧ k = 0) ∨ (x = c0 ∧ k = 1) ∨ (x = c0 ∧ k = 2) ∨ (x = c0 ∧ k = 4) ∨ (x = c0 ∧ k = 8) ∨ (x = c0 ∧ k = 11)) from Or.inr (show (x = c0 ∧ k = 0) ∨ (x = c0 ∧ k = 1) ∨ (x = c0 ∧ k = 2) ∨ (x = c0 ∧ k = 4) ∨ (x = c0 ∧ k = 8) ∨ (x = c0 ∧ k = 11) from Or.inr (Or.inr (Or.inr (Or.inr (Or.inr (h9))))))))
      have k_12 : (gi σ7 c0 10).toInt = (gi σ4 c0 10).toInt := congrArg Int32.toInt (FX_i cσ7 id (show ¬ ((c0 = c0 ∧ 10 = 11)) from by first | omega | (have ugc0 := un gc0; omega)))
      have t_13 := XI_c1 mσ7 (id := c0) (k := 11) (lim_F0_11 hc0)
      have kr_14 : gr σ7 c0 9 = some 50 := (FX_r cσ7 id (show ¬ ((c0 = c0 ∧ 9 = 11)) from by first | omega | (have ugc0 := un gc0; omega))).trans kr_9
      refine ⟨?_, ?_⟩
      · intro q_15
        replace H := f_t q_15 H
        have b_16 : (0 : Int) ≤ r8.toInt := Int32.le_iff_toInt_le.mp q_15
        refine ⟨?_, ?_⟩
        · intro q_17
          replace H := f_t q_17 H
          have b_18 : (1 : Int) < r2.toInt := Int32.lt_iff_toInt_lt.mp q_17
          refine kF_X2_keeps hc0 lc0 mσ7   (fun σ11 mσ11 cσ11 hσ11 => ?_)
          replace H := f_v hσ11 H
          have fσ11 : FX (fun id => id = c0 + 1 ∨ id = c0 + 2 ∨ id = c0 + 3 ∨ id = c0 + 4) (fun id k => (id = c0 ∧ k = 0) ∨ (id = c0 ∧ k = 1) ∨ (id = c0 ∧ k = 2) ∨ (id = c0 ∧ k = 4) ∨ (id = c0 ∧ k = 8) ∨ (id = c0 ∧ k = 11)) σ0 σ11 := FX_tr fσ7 cσ11 (fun x (h9 : x = c0 + 2 ∨ x = c0 + 3 ∨ x = c0 + 4) => h9.elim (fun e9 => (show x = c0 + 1 ∨ x = c0 + 2 ∨ x = c0 + 3 ∨ x = c0 + 4 from Or.inr (Or.inl (e9)))) (fun h9 => h9.elim (fun e9 => (show x = c0 + 1 ∨ x = c0 + 2 ∨ x = c0 + 3 ∨ x = c0 + 4 from Or.inr (Or.inr (Or.inl (e9))))) (fun h9 => (show x = c0 + 1 ∨ x = c0 + 2 ∨ x = c0 + 3 ∨ x = c0 + 4 from Or.inr (Or.inr (Or.inr (h9))))))) (fun x k (h9 : (x = c0 ∧ k = 0) ∨ (x = c0 ∧ k = 1) ∨ (x = c0 ∧ k = 2) ∨ (x = c0 ∧ k = 8)) => (show (x = c0 + 1 ∨ x = c0 + 2 ∨ x = c0 + 3 ∨ x = c0 + 4) ∨ ((x = c0 ∧ k = 0) ∨ (x = c0 ∧ k = 1) ∨ (x = c0 ∧ k = 2) ∨ (x = c0 ∧ k = 4) ∨ (x = c0 ∧ k = 8) ∨ (x = c0 ∧ k = 11)) from h9.elim (fun e9 => Or.inr (show (x = c0 ∧ k = 0) ∨ (x = c0 ∧ k = 1) ∨ (x = c0 ∧ k = 2) ∨ (x = c0 ∧ k = 4) ∨ (x = c0 ∧ k = 8) ∨ (x = c0 ∧ k = 11) from Or.inl (e9))) (fun h9 => h9.elim (fun e9 => Or.inr (show (x = c0 ∧ k = 0) ∨ (x = c0 ∧ k = 1) ∨ (x = c0 ∧ k = 2) ∨ (x = c0 ∧ k = 4) ∨ (x = c0 ∧ k = 8) ∨ (x = c0 ∧ k = 11) from Or.inr (Or.inl (e9)))) (fun h9 => h9.elim (fun e9 => Or.inr (show (x = c0 ∧ k = 0) ∨ (x = c0 ∧ k = 1) ∨ (x = c0 ∧ k = 2) ∨ (x = c0 ∧ k = 4) ∨ (x = c0 ∧ k = 8) ∨ (x = c0 ∧ k = 11) from Or.inr (Or.inr (Or.inl (e9))))) (fun h9 => Or.inr (show (x = c0 ∧ k = 0) ∨ (x = c0 ∧ k = 1) ∨ (x = c0 ∧ k = 2) ∨ (x = c0 ∧ k = 4) ∨ (x = c0 ∧ k = 8) ∨ (x = c0 ∧ k = 11) from Or.inr (Or.inr (Or.inr (Or.inr (Or.inl (h9)))))))))))
          have k_19 : (gi σ11 c0 10).toInt = (gi σ7 c0 10).toInt := congrArg Int32.toInt (FX_i cσ11 (show ¬ (c0 = c0 + 2 ∨ c0 = c0 + 3 ∨ c0 = c0 + 4) from by first | omega | (have ugc0 := un gc0; omega)) (show ¬ ((c0 = c0 ∧ 10 = 0) ∨ (c0 = c0 ∧ 10 = 1) ∨ (c0 = c0 ∧ 10 = 2) ∨ (c0 = c0 ∧ 10 = 8)) from by first | omega | (have ugc0 := un gc0; omega)))
          have k_20 : (gi σ11 c0 11).toInt = (gi σ7 c0 11).toInt := congrArg Int32.toInt (FX_i cσ11 (show ¬ (c0 = c0 + 2 ∨ c0 = c0 + 3 ∨ c0 = c0 + 4) from by first | omega | (have ugc0 := un gc0; omega)) (show ¬ ((c0 = c0 ∧ 11 = 0) ∨ (c0 = c0 ∧ 11 = 1) ∨ (c0 = c0 ∧ 11 = 2) ∨ (c0 = c0 ∧ 11 = 8)) from by first | omega | (have ugc0 := un gc0; omega)))
          have kr_21 : gr σ11 c0 9 = some 50 := (FX_r cσ11 (show ¬ (c0 = c0 + 2 ∨ c0 = c0 + 3 ∨ c0 = c0 + 4) from by first | omega | (have ugc0 := un gc0; omega)) (show ¬ ((c0 = c0 ∧ 9 = 0) ∨ (c0 = c0 ∧ 9 = 1) ∨ (c0 = c0 ∧ 9 = 2) ∨ (c0 = c0 ∧ 9 = 8)) from by first | omega | (have ugc0 := un gc0; omega))).trans kr_14
          have z_22 : (1 : Int32).toInt = 1 := rfl
          exact h9ret (1 : Int32) σ11 mσ11 fσ11 (by omega) (by omega) (H0.trans H.symm)
        · intro q_17
          replace H := f_f q_17 H
          have b_23 : ¬ (1 : Int) < r2.toInt := fun h9 => q_17 (Int32.lt_iff_toInt_lt.mpr h9)
          have z_24 : (32 : Int32).toInt = 32 := rfl
          refine kF_X2_takes hc0 lc0 mσ7  (by omega) (by omega) (by first | with_reducible assumption | with_reducible rfl | omega | assumption | rfl) (fun r13 σ12 mσ12 cσ12 plσ12 phσ12 hσ12 => ?_)
          replace H := f_b hσ12 H
          have fσ12 : FX (fun id => id = c0 + 1 ∨ id = c0 + 2 ∨ id = c0 + 3 ∨ id = c0 + 4) (fun id k => (id = c0 ∧ k = 0) ∨ (id = c0 ∧ k = 1) ∨ (id = c0 ∧ k = 2) ∨ (id = c0 ∧ k = 4) ∨ (id = c0 ∧ k = 8) ∨ (id = c0 ∧ k = 11)) σ0 σ12 := FX_tr fσ7 cσ12 (fun _ h9 => h9.elim) (fun x k (h9 : (x = c0 ∧ k = 11)) => (show (x = c0 + 1 ∨ x = c0 + 2 ∨ x = c0 + 3 ∨ x = c0 + 4) ∨ ((x = c0 ∧ k = 0) ∨ (x = c0 ∧ k = 1) ∨ (x = c0 ∧ k = 2) ∨ (x = c0 ∧ k = 4) ∨ (x = c0 ∧ k = 8) ∨ (x = c0 ∧ k = 11)) from Or.inr (show (x = c0 ∧ k = 0) ∨ (x = c0 ∧ k = 1) ∨ (x = c0 ∧ k = 2) ∨ (x = c0 ∧ k = 4) ∨ (x = c0 ∧ k = 8) ∨ (x = c0 ∧ k = 11) from Or.inr (Or.inr (Or.inr (Or.inr (Or.inr (h9))))))))
          have k_25 : (gi σ12 c0 10).toInt = (gi σ7 c0 10).toInt := congrArg Int32.toInt (FX_i cσ12 id (show ¬ ((c0 = c0 ∧ 10 = 11)) from by first | omega | (have ugc0 := un gc0; omega)))
          have t_26 := XI_c1 mσ12 (id := c0) (k := 11) (lim_F0_11 hc0)
          have kr_27 : gr σ12 c0 9 = some 50 := (FX_r cσ12 id (show ¬ ((c0 = c0 ∧ 9 = 11)) from by first | omega | (have ugc0 := un gc0; omega))).trans kr_14
          refine ⟨?_, ?_⟩
          · intro q_28
            replace H := f_t q_28 H
            have b_29 : r13.toInt = 0 := congrArg Int32.toInt q_28
            exact h9ret (0 : Int32) σ12 mσ12 fσ12 (by omega) (by omega) (H0.trans H.symm)
          · intro q_28
            replace H := f_f q_28 H
            have b_30 : ¬ r13.toInt = 0 := fun h9 => q_28 (Int32.toInt_inj.mp h9)
            refine kF_X2_readsEither_r0 hc0 lc0 mσ12  (by omega) (by omega) (by first | with_reducible assumption | with_reducible rfl | omega | assumption | rfl) (fun r16 σ15 mσ15 cσ15 plσ15 phσ15 hσ15 => ?_)
            replace H := f_b hσ15 H
            have fσ15 : FX (fun id => id = c0 + 1 ∨ id = c0 + 2 ∨ id = c0 + 3 ∨ id = c0 + 4) (fun id k => (id = c0 ∧ k = 0) ∨ (id = c0 ∧ k = 1) ∨ (id = c0 ∧ k = 2) ∨ (id = c0 ∧ k = 4) ∨ (id = c0 ∧ k = 8) ∨ (id = c0 ∧ k = 11)) σ0 σ15 := FX_tr fσ12 cσ15 (fun x (h9 : x = c0 + 1) => (show x = c0 + 1 ∨ x = c0 + 2 ∨ x = c0 + 3 ∨ x = c0 + 4 from Or.inl (h9))) (fun x k (h9 : (x = c0 ∧ k = 4) ∨ (x = c0 ∧ k = 11)) => (show (x = c0 + 1 ∨ x = c0 + 2 ∨ x = c0 + 3 ∨ x = c0 + 4) ∨ ((x = c0 ∧ k = 0) ∨ (x = c0 ∧ k = 1) ∨ (x = c0 ∧ k = 2) ∨ (x = c0 ∧ k = 4) ∨ (x = c0 ∧ k = 8) ∨ (x = c0 ∧ k = 11)) from h9.elim (fun e9 => Or.inr (show (x = c0 ∧ k = 0) ∨ (x = c0 ∧ k = 1) ∨ (x = c0 ∧ k = 2) ∨ (x = c0 ∧ k = 4) ∨ (x = c0 ∧ k = 8) ∨ (x = c0 ∧ k = 11) from Or.inr (Or.inr (Or.inr (Or.inl (e9)))))) (fun h9 => Or.inr (show (x = c0 ∧ k = 0) ∨ (x = c0 ∧ k = 1) ∨ (x = c0 ∧ k = 2) ∨ (x = c0 ∧ k = 4) ∨ (x = c0 ∧ k = 8) ∨ (x = c0 ∧ k = 11) from Or.inr (Or.inr (Or.inr (Or.inr (Or.inr (h9)))))))))
            have k_31 : (gi σ15 c0 10).toInt = (gi σ12 c0 10).toInt := congrArg Int32.toInt (FX_i cσ15 (show ¬ (c0 = c0 + 1) from by first | omega | (have ugc0 := un gc0; omega)) (show ¬ ((c0 = c0 ∧ 10 = 4) ∨ (c0 = c0 ∧ 10 = 11)) from by first | omega | (have ugc0 := un gc0; omega)))
            have t_32 := XI_c1 mσ15 (id := c0) (k := 11) (lim_F0_11 hc0)
            have kr_33 : gr σ15 c0 9 = some 50 := (FX_r cσ15 (show ¬ (c0 = c0 + 1) from by first | omega | (have ugc0 := un gc0; omega)) (show ¬ ((c0 = c0 ∧ 9 = 4) ∨ (c0 = c0 ∧ 9 = 11)) from by first | omega | (have ugc0 := un gc0; omega))).trans kr_27
            refine ⟨?_, ?_⟩
            · intro q_34
              replace H := f_f q_34 H
              have b_35 : ¬ r16.toInt = 0 := fun h9 => q_34 (Int32.toInt_inj.mp h9)
              refine kF_X2_keeps hc0 lc0 mσ15   (fun σ18 mσ18 cσ18 hσ18 => ?_)
              replace H := f_v hσ18 H
              have fσ18 : FX (fun id => id = c0 + 1 ∨ id = c0 + 2 ∨ id = c0 + 3 ∨ id = c0 + 4) (fun id k => (id = c0 ∧ k = 0) ∨ (id = c0 ∧ k = 1) ∨ (id = c0 ∧ k = 2) ∨ (id = c0 ∧ k = 4) ∨ (id = c0 ∧ k = 8) ∨ (id = c0 ∧ k = 11)) σ0 σ18 := FX_tr fσ15 cσ18 (fun x (h9 : x = c0 + 2 ∨ x = c0 + 3 ∨ x = c0 + 4) => h9.elim (fun e9 => (show x = c0 + 1 ∨ x = c0 + 2 ∨ x = c0 + 3 ∨ x = c0 + 4 from Or.inr (Or.inl (e9)))) (fun h9 => h9.elim (fun e9 => (show x = c0 + 1 ∨ x = c0 + 2 ∨ x = c0 + 3 ∨ x = c0 + 4 from Or.inr (Or.inr (Or.inl (e9))))) (fun h9 => (show x = c0 + 1 ∨ x = c0 + 2 ∨ x = c0 + 3 ∨ x = c0 + 4 from Or.inr (Or.inr (Or.inr (h9))))))) (fun x k (h9 : (x = c0 ∧ k = 0) ∨ (x = c0 ∧ k = 1) ∨ (x = c0 ∧ k = 2) ∨ (x = c0 ∧ k = 8)) => (show (x = c0 + 1 ∨ x = c0 + 2 ∨ x = c0 + 3 ∨ x = c0 + 4) ∨ ((x = c0 ∧ k = 0) ∨ (x = c0 ∧ k = 1) ∨ (x = c0 ∧ k = 2) ∨ (x = c0 ∧ k = 4) ∨ (x = c0 ∧ k = 8) ∨ (x = c0 ∧ k = 11)) from h9.elim (fun e9 => Or.inr (show (x = c0 ∧ k = 0) ∨ (x = c0 ∧ k = 1) ∨ (x = c0 ∧ k = 2) ∨ (x = c0 ∧ k = 4) ∨ (x = c0 ∧ k = 8) ∨ (x = c0 ∧ k = 11) from Or.inl (e9))) (fun h9 => h9.elim (fun e9 => Or.inr (show (x = c0 ∧ k = 0) ∨ (x = c0 ∧ k = 1) ∨ (x = c0 ∧ k = 2) ∨ (x = c0 ∧ k = 4) ∨ (x = c0 ∧ k = 8) ∨ (x = c0 ∧ k = 11) from Or.inr (Or.inl (e9)))) (fun h9 => h9.elim (fun e9 => Or.inr (show (x = c0 ∧ k = 0) ∨ (x = c0 ∧ k = 1) ∨ (x = c0 ∧ k = 2) ∨ (x = c0 ∧ k = 4) ∨ (x = c0 ∧ k = 8) ∨ (x = c0 ∧ k = 11) from Or.inr (Or.inr (Or.inl (e9))))) (fun h9 => Or.inr (show (x = c0 ∧ k = 0) ∨ (x = c0 ∧ k = 1) ∨ (x = c0 ∧ k = 2) ∨ (x = c0 ∧ k = 4) ∨ (x = c0 ∧ k = 8) ∨ (x = c0 ∧ k = 11) from Or.inr (Or.inr (Or.inr (Or.inr (Or.inl (h9)))))))))))
              have k_36 : (gi σ18 c0 10).toInt = (gi σ15 c0 10).toInt := congrArg Int32.toInt (FX_i cσ18 (show ¬ (c0 = c0 + 2 ∨ c0 = c0 + 3 ∨ c0 = c0 + 4) from by first | omega | (have ugc0 := un gc0; omega)) (show ¬ ((c0 = c0 ∧ 10 = 0) ∨ (c0 = c0 ∧ 10 = 1) ∨ (c0 = c0 ∧ 10 = 2) ∨ (c0 = c0 ∧ 10 = 8)) from by first | omega | (have ugc0 := un gc0; omega)))
              have k_37 : (gi σ18 c0 11).toInt = (gi σ15 c0 11).toInt := congrArg Int32.toInt (FX_i cσ18 (show ¬ (c0 = c0 + 2 ∨ c0 = c0 + 3 ∨ c0 = c0 + 4) from by first | omega | (have ugc0 := un gc0; omega)) (show ¬ ((c0 = c0 ∧ 11 = 0) ∨ (c0 = c0 ∧ 11 = 1) ∨ (c0 = c0 ∧ 11 = 2) ∨ (c0 = c0 ∧ 11 = 8)) from by first | omega | (have ugc0 := un gc0; omega)))
              have kr_38 : gr σ18 c0 9 = some 50 := (FX_r cσ18 (show ¬ (c0 = c0 + 2 ∨ c0 = c0 + 3 ∨ c0 = c0 + 4) from by first | omega | (have ugc0 := un gc0; omega)) (show ¬ ((c0 = c0 ∧ 9 = 0) ∨ (c0 = c0 ∧ 9 = 1) ∨ (c0 = c0 ∧ 9 = 2) ∨ (c0 = c0 ∧ 9 = 8)) from by first | omega | (have ugc0 := un gc0; omega))).trans kr_33
              have z_39 : (1 : Int32).toInt = 1 := rfl
              exact h9ret (1 : Int32) σ18 mσ18 fσ18 (by omega) (by omega) (H0.trans H.symm)
            · intro q_34
              replace H := f_t q_34 H
              have b_40 : r16.toInt = 0 := congrArg Int32.toInt q_34
              exact h9ret (0 : Int32) σ15 mσ15 fσ15 (by omega) (by omega) (H0.trans H.symm)
      · intro q_15
        replace H := f_f q_15 H
        have b_41 : ¬ (0 : Int) ≤ r8.toInt := fun h9 => q_15 (Int32.le_iff_toInt_le.mpr h9)
        exact h9ret (0 : Int32) σ7 mσ7 fσ7 (by omega) (by omega) (H0.trans H.symm)
    · intro q_10
      replace H := f_t q_10 H
      have b_42 : r5.toInt = 0 := congrArg Int32.toInt q_10
      exact h9ret (0 : Int32) σ4 mσ4 fσ4 (by omega) (by omega) (H0.trans H.symm)
