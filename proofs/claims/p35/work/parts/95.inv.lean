/-! what holds between two rounds -/
noncomputable def IVX (V : Vx) (σ : Sg) : Prop := XI V σ ∧ NN σ 1 ∧ NN σ 17 ∧ (gi σ 1 3).toInt = (gi σ 1 1).toInt ∧ (gi σ 17 3).toInt = (gi σ 17 1).toInt ∧ (gi σ 1 9).toInt ≤ 9999 ∧ (gi σ 17 9).toInt ≤ 9999 ∧ (gi σ 9 1).toInt % 3 = 0 ∧ (gi σ 25 1).toInt % 3 = 0 ∧ FI V σ
noncomputable def IVM (σ : Sg) : Prop := MI σ ∧ (gi σ 74 12).toInt < (gi σ 74 11).toInt ∧ (gi σ 74 50).toInt < (gi σ 74 11).toInt ∧ PL σ ∧ PLI σ ∧ (gi σ 74 1).toInt ≤ 9999 ∧ (gi σ 74 52).toInt ≤ 9999
noncomputable def INV (V : Vx) (σ : Sg) : Prop := IVX V σ ∧ IVM σ
/-- the model's cells are left alone -/
noncomputable def MA (σ σ' : Sg) : Prop := ∀ id, 74 ≤ id → id < 1000 → ∀ k, gi σ' id k = gi σ id k
/-- the class's cells are left alone -/
noncomputable def XA (σ σ' : Sg) : Prop := (∀ id, (id < 74 ∨ 1000 ≤ id) → ∀ k, gi σ' id k = gi σ id k) ∧ ∀ id k, gr σ' id k = gr σ id k
theorem MA_fx {S : Nat → Prop} {F : Nat → Nat → Prop} {σ σ' : Sg} (f : FX S F σ σ') (h1 : ∀ id, S id → id < 74 ∨ 1000 ≤ id) (h2 : ∀ id k, F id k → id < 74 ∨ 1000 ≤ id) : MA σ σ' := fun id a b k =>
  FX_i f (fun z => by have := h1 id z; omega) (fun z => by have := h2 id k z; omega)
theorem XA_fr {S F : List Nat} {σ σ' : Sg} (f : Fr S F σ σ') (h : ∀ id ∈ S, 74 ≤ id ∧ id < 1000) : XA σ σ' :=
  ⟨fun id a k => congrFun (f.1 id (fun z => by have := h id z; omega)).1 k, fun id k => by unfold gr; rw [f.2.2]⟩
theorem PL_ag {σ σ' : Sg} (h : MA σ σ') (q : PL σ) : PL σ' := fun m hm => by
  rw [h 74 (by decide) (by decide)] at hm
  obtain ⟨k, hk, e⟩ := q m hm
  exact ⟨k, by rw [h 74 (by decide) (by decide)]; exact hk, (h 110 (by decide) (by decide) k).trans e⟩
theorem PLI_ag {σ σ' : Sg} (h : MA σ σ') (q : PLI σ) : PLI σ' := fun m hm => by
  rw [h 74 (by decide) (by decide)] at hm
  obtain ⟨k, hk, e⟩ := q m hm
  exact ⟨k, by rw [h 74 (by decide) (by decide)]; exact hk, (h 162 (by decide) (by decide) k).trans e⟩
theorem bnd_ag {σ σ' : Sg} (h : MA σ σ') {a n : Nat} {lo hi : Int} (h1 : 74 ≤ a) (h2 : a < 1000) (q : bnd (σ.1 a) n lo hi) : bnd (σ'.1 a) n lo hi := fun j hj => by
  have e : σ'.1 a j = σ.1 a j := h a h1 h2 j
  rw [e]; exact q j hj
theorem MI0_ag {σ σ' : Sg} (h : MA σ σ') (q : MI0 σ) : MI0 σ' := by
  have e : ∀ k, gi σ' 74 k = gi σ 74 k := h 74 (by decide) (by decide)
  unfold MI0
  simp only [e]
  exact q
theorem MI1_ag {σ σ' : Sg} (h : MA σ σ') (q : MI1 σ) : MI1 σ' := by
  unfold MI1 at q ⊢
  obtain ⟨q1, q2, q3, q4, q5, q6, q7, q8, q9, q10, q11, q12, q13, q14, q15, q16, q17⟩ := q
  refine ⟨bnd_ag h ?_ ?_ q1, bnd_ag h ?_ ?_ q2, bnd_ag h ?_ ?_ q3, bnd_ag h ?_ ?_ q4, bnd_ag h ?_ ?_ q5, bnd_ag h ?_ ?_ q6, bnd_ag h ?_ ?_ q7, bnd_ag h ?_ ?_ q8, bnd_ag h ?_ ?_ q9, bnd_ag h ?_ ?_ q10, bnd_ag h ?_ ?_ q11, bnd_ag h ?_ ?_ q12, bnd_ag h ?_ ?_ q13, bnd_ag h ?_ ?_ q14, bnd_ag h ?_ ?_ q15, bnd_ag h ?_ ?_ q16, bnd_ag h ?_ ?_ q17⟩ <;> decide
theorem fvL_in : ∀ a ∈ fvL, 74 ≤ a ∧ a < 1000 := by decide
theorem MI_ag {σ σ' : Sg} (h : MA σ σ') (q : MI σ) : MI σ' :=
  ⟨MI0_ag h q.1, MI1_ag h q.2.1, FV_eq (fun a ha k => h a (fvL_in a ha).1 (fvL_in a ha).2 k) (h 74 (by decide) (by decide) _) (h 74 (by decide) (by decide) _) (h 74 (by decide) (by decide) _) q.2.2⟩
theorem IVM_ag {σ σ' : Sg} (h : MA σ σ') (q : IVM σ) : IVM σ' := by
  obtain ⟨q1, q2, q3, q4, q5, q6, q7⟩ := q
  have e : ∀ k, gi σ' 74 k = gi σ 74 k := h 74 (by decide) (by decide)
  refine ⟨MI_ag h q1, ?_, ?_, PL_ag h q4, PLI_ag h q5, ?_, ?_⟩
  · rw [e, e]; exact q2
  · rw [e, e]; exact q3
  · rw [e]; exact q6
  · rw [e]; exact q7
theorem fo_lo {id o : Nat} (h : fo id = some o) : id < 74 ∨ 1000 ≤ id := by
  by_cases h3 : id < 74
  · exact Or.inl h3
  · by_cases h4 : id < 1000
    · exfalso
      have h1 : ¬ id < 69 := by omega
      unfold fo at h
      rw [if_neg h1, if_neg h3, if_pos h4] at h
      cases h
    · exact Or.inr (by omega)
theorem lim_out {id k : Nat} {lo hi : Int} (h : lim id k = some (lo, hi)) : id < 74 ∨ 1000 ≤ id := by
  by_cases h1 : id < 69
  · exact Or.inl (by omega)
  · unfold lim at h
    rw [if_neg h1] at h
    cases hf : fo id with
    | some o => exact fo_lo hf
    | none =>
      rw [hf] at h
      by_cases h2 : 2000 ≤ id
      · exact Or.inr (by omega)
      · have h : (if 2000 ≤ id then (if k = 0 then some ((0 : Int), (6 : Int)) else if k = 1 then some (0, 5) else if k = 2 then some (0, 9) else none) else none) = some (lo, hi) := h
        rw [if_neg h2] at h
        cases h
theorem XI_xa {V : Vx} {σ σ' : Sg} (h : XA σ σ') (x : XI V σ) : XI V σ' := by
  obtain ⟨x1, x2, x3, x4⟩ := x
  refine ⟨fun id k lo hi hl => ?_, fun c hc => ⟨?_, fun k μ hμ => ?_⟩, fun k f hf => ?_, fun f hf => ?_⟩
  · rw [h.1 id (lim_out hl)]; exact x1 id k lo hi hl
  · rw [h.2]; exact (x2 c hc).1
  · rw [h.2] at hμ; exact (x2 c hc).2 k μ hμ
  · rw [h.2] at hf; exact x3 k f hf
  · rw [h.2]; exact x4 f hf
theorem NN_xa {σ σ' : Sg} {c : Nat} (h : XA σ σ') (hc : c < 72) (q : NN σ c) : NN σ' c := by
  refine ⟨fun p hp => ?_, fun m hm => ?_⟩
  · rw [h.1 c (by omega)] at hp ⊢
    rw [h.1 (c + 2) (by omega)]
    exact q.1 p hp
  · rw [h.1 c (by omega)] at hm
    rw [h.2]
    exact q.2 m hm
theorem IVX_xa {V : Vx} {σ σ' : Sg} (h : XA σ σ') (q : IVX V σ) : IVX V σ' := by
  obtain ⟨q1, q2, q3, q4, q5, q6, q7, q8, q9, q10⟩ := q
  refine ⟨XI_xa h q1, NN_xa h (by decide) q2, NN_xa h (by decide) q3, ?_, ?_, ?_, ?_, ?_, ?_, fun k hk hn => q10 k hk ?_⟩
  · rw [h.1 1 (by decide), h.1 1 (by decide)]; exact q4
  · rw [h.1 17 (by decide), h.1 17 (by decide)]; exact q5
  · rw [h.1 1 (by decide)]; exact q6
  · rw [h.1 17 (by decide)]; exact q7
  · rw [h.1 9 (by decide)]; exact q8
  · rw [h.1 25 (by decide)]; exact q9
  · rw [← h.2]; exact hn
/-- the cells that the invariant does not speak of, model aside -/
noncomputable def Sf (id : Nat) : Prop := id = 0 ∨ (4 ≤ id ∧ id ≤ 8) ∨ (10 ≤ id ∧ id ≤ 16) ∨ (20 ≤ id ∧ id ≤ 24) ∨ (26 ≤ id ∧ id ≤ 48) ∨ (50 ≤ id ∧ id ≤ 73) ∨ 1000 ≤ id
noncomputable def Ff (id k : Nat) : Prop := (id = 1 ∨ id = 17) ∧ k ≠ 1 ∧ k ≠ 3 ∧ k ≠ 9
theorem nSf {id : Nat} (h : id = 1 ∨ id = 2 ∨ id = 3 ∨ id = 9 ∨ id = 17 ∨ id = 18 ∨ id = 19 ∨ id = 25 ∨ id = 49) : ¬ Sf id := by unfold Sf; omega
theorem nFf {id k : Nat} (h : (id ≠ 1 ∧ id ≠ 17) ∨ k = 1 ∨ k = 3 ∨ k = 9) : ¬ Ff id k := by unfold Ff; omega
theorem IVX_fx {V V' : Vx} {σ σ' : Sg} (f : FX Sf Ff σ σ') (x : XI V' σ') (i : FI V' σ') (q : IVX V σ) : IVX V' σ' := by
  obtain ⟨q1, q2, q3, q4, q5, q6, q7, q8, q9, q10⟩ := q
  refine ⟨x, NN_fx q2 f (nSf (by decide)) (nSf (by decide)) (nSf (by decide)) (nFf (by decide)) (nFf (by decide)) (fun k => nFf (Or.inl (by decide))) (fun k => nFf (Or.inl (by decide))), NN_fx q3 f (nSf (by decide)) (nSf (by decide)) (nSf (by decide)) (nFf (by decide)) (nFf (by decide)) (fun k => nFf (Or.inl (by decide))) (fun k => nFf (Or.inl (by decide))), ?_, ?_, ?_, ?_, ?_, ?_, i⟩
  · rw [FX_i f (nSf (by decide)) (nFf (by decide)), FX_i f (nSf (by decide)) (nFf (by decide))]; exact q4
  · rw [FX_i f (nSf (by decide)) (nFf (by decide)), FX_i f (nSf (by decide)) (nFf (by decide))]; exact q5
  · rw [FX_i f (nSf (by decide)) (nFf (by decide))]; exact q6
  · rw [FX_i f (nSf (by decide)) (nFf (by decide))]; exact q7
  · rw [FX_i f (nSf (by decide)) (nFf (by decide))]; exact q8
  · rw [FX_i f (nSf (by decide)) (nFf (by decide))]; exact q9
theorem FI_fx {V : Vx} {S : Nat → Prop} {F : Nat → Nat → Prop} {σ σ' : Sg} (f : FX S F σ σ') (h1 : ¬ S 49) (h2 : ∀ k, ¬ F 49 k) (q : FI V σ) : FI V σ' := fun k hk hn => q k hk (by rw [← FX_r f h1 (h2 k)]; exact hn)
theorem Sf_lo {id : Nat} (h : Sf id) : id < 74 ∨ 1000 ≤ id := by unfold Sf at h; omega
theorem Ff_lo {id k : Nat} (h : Ff id k) : id < 74 ∨ 1000 ≤ id := by unfold Ff at h; omega
theorem INV_fx {V : Vx} {σ σ' : Sg} (f : FX Sf Ff σ σ') (x : XI V σ') (q : INV V σ) : INV V σ' :=
  ⟨IVX_fx f x (FI_fx f (nSf (by decide)) (fun k => nFf (Or.inl (by decide))) q.1.2.2.2.2.2.2.2.2.2) q.1, IVM_ag (MA_fx f (fun _ => Sf_lo) (fun _ _ => Ff_lo)) q.2⟩
theorem IVM_fr {S F : List Nat} {σ σ' : Sg} (f : Fr S F σ σ') (m : MI σ') (h1 : 110 ∉ S) (h2 : 162 ∉ S) (h3 : 0 ∉ F) (h4 : 51 ∉ F) (h5 : 11 ∉ F) (h6 : 12 ∉ F) (h7 : 50 ∉ F) (h8 : 52 ∉ F) (h9 : (gi σ' 74 1).toInt ≤ 9999) (q : IVM σ) : IVM σ' := by
  obtain ⟨q1, q2, q3, q4, q5, q6, q7⟩ := q
  refine ⟨m, ?_, ?_, PL_fr q4 f h1 h3, PLI_fr q5 f h2 h4, h9, ?_⟩
  · rw [f.2.1 12 h6, f.2.1 11 h5]; exact q2
  · rw [f.2.1 50 h7, f.2.1 11 h5]; exact q3
  · rw [f.2.1 52 h8]; exact q7
theorem INV_m {V : Vx} {S F : List Nat} {σ σ' : Sg} (f : Fr S F σ σ') (h : ∀ id ∈ S, 74 ≤ id ∧ id < 1000) (q : INV V σ) (m : IVM σ') : INV V σ' := ⟨IVX_xa (XA_fr f h) q.1, m⟩
set_option maxHeartbeats 4000000 in
theorem L_X11_of {l : Launch} {V : Vx} {a1 : Int32} {a2 : Int32} {σ0 : Sg} {Qk : Int32 → Sg → Prop} (q : INV V σ0) (h9ret : ∀ (r : Int32) (σ' : Sg), INV V σ' → Qk r σ') : K_X11_of l V a1 a2 σ0 Qk := by
  refine k_X11_of q.1.1 q.1.2.1 q.1.2.2.2.1 (fun r σ' p0 p1 p2 => h9ret r σ' ?_)
  exact INV_fx (FX_tr FX_rf p1 (by intro id h9; (try dsimp only at h9) <;> unfold Sf <;> first | exact h9.elim | omega) (by intro id k h9; (try dsimp only at h9) <;> unfold Sf Ff <;> first | exact h9.elim | omega)) p0 q
set_option maxHeartbeats 4000000 in
theorem L_X11_set {l : Launch} {V : Vx} {a1 : Int32} {a2 : Int32} {a3 : Int32} {σ0 : Sg} {Qk : Int32 → Sg → Prop} (q : INV V σ0) (h9ret : ∀ (r : Int32) (σ' : Sg), INV V σ' → Qk r σ') : K_X11_set l V a1 a2 a3 σ0 Qk := by
  refine k_X11_set q.1.1 (fun r σ' p0 p1 => h9ret r σ' ?_)
  exact INV_fx (FX_tr FX_rf p1 (by intro id h9; (try dsimp only at h9) <;> unfold Sf <;> first | exact h9.elim | omega) (by intro id k h9; (try dsimp only at h9) <;> unfold Sf Ff <;> first | exact h9.elim | omega)) p0 q
set_option maxHeartbeats 4000000 in
theorem L_X11_row {l : Launch} {V : Vx} {a1 : Int32} {a2 : Int32} {a3 : Int32} {σ0 : Sg} {Qk : Int32 → Sg → Prop} (q : INV V σ0) (h9ret : ∀ (r : Int32) (σ' : Sg), INV V σ' → Qk r σ') : K_X11_row l V a1 a2 a3 σ0 Qk := by
  refine k_X11_row q.1.1 q.1.2.1 (fun r σ' p0 p1 p2 => h9ret r σ' ?_)
  exact INV_fx (FX_tr FX_rf p1 (by intro id h9; (try dsimp only at h9) <;> unfold Sf <;> first | exact h9.elim | omega) (by intro id k h9; (try dsimp only at h9) <;> unfold Sf Ff <;> first | exact h9.elim | omega)) p0 q
set_option maxHeartbeats 4000000 in
theorem L_X11_place {l : Launch} {V : Vx} {a1 : Int32} {a2 : Int32} {σ0 : Sg} {Qk : Int32 → Sg → Prop} (q : INV V σ0) (h9ret : ∀ (r : Int32) (σ' : Sg), INV V σ' → Qk r σ') : K_X11_place l V a1 a2 σ0 Qk := by
  refine k_X11_place q.1.1 q.1.2.1 q.1.2.2.2.1 (fun r σ' p0 p1 p2 => h9ret r σ' ?_)
  obtain ⟨⟨q1, q2, q3, q4, q5, q6, q7, q8, q9, q10⟩, qm⟩ := q
  exact ⟨⟨p0, p2, NN_fx q3 p1 (by intro h9; (try dsimp only at h9) <;> first | exact h9 | omega) (by intro h9; (try dsimp only at h9) <;> first | exact h9 | omega) (by intro h9; (try dsimp only at h9) <;> first | exact h9 | omega) (by intro h9; (try dsimp only at h9) <;> first | exact h9 | omega) (by intro h9; (try dsimp only at h9) <;> first | exact h9 | omega) (fun k => (by intro h9; (try dsimp only at h9) <;> first | exact h9 | omega)) (fun k => (by intro h9; (try dsimp only at h9) <;> first | exact h9 | omega)), by rw [FX_i p1 (id := 1) (k := 3) (by intro h9; (try dsimp only at h9) <;> first | exact h9 | omega) (by intro h9; (try dsimp only at h9) <;> first | exact h9 | omega), FX_i p1 (id := 1) (k := 1) (by intro h9; (try dsimp only at h9) <;> first | exact h9 | omega) (by intro h9; (try dsimp only at h9) <;> first | exact h9 | omega)]; exact q4, by rw [FX_i p1 (id := 17) (k := 3) (by intro h9; (try dsimp only at h9) <;> first | exact h9 | omega) (by intro h9; (try dsimp only at h9) <;> first | exact h9 | omega), FX_i p1 (id := 17) (k := 1) (by intro h9; (try dsimp only at h9) <;> first | exact h9 | omega) (by intro h9; (try dsimp only at h9) <;> first | exact h9 | omega)]; exact q5, by rw [FX_i p1 (id := 1) (k := 9) (by intro h9; (try dsimp only at h9) <;> first | exact h9 | omega) (by intro h9; (try dsimp only at h9) <;> first | exact h9 | omega)]; exact q6, by rw [FX_i p1 (id := 17) (k := 9) (by intro h9; (try dsimp only at h9) <;> first | exact h9 | omega) (by intro h9; (try dsimp only at h9) <;> first | exact h9 | omega)]; exact q7, by rw [FX_i p1 (id := 9) (k := 1) (by intro h9; (try dsimp only at h9) <;> first | exact h9 | omega) (by intro h9; (try dsimp only at h9) <;> first | exact h9 | omega)]; exact q8, by rw [FX_i p1 (id := 25) (k := 1) (by intro h9; (try dsimp only at h9) <;> first | exact h9 | omega) (by intro h9; (try dsimp only at h9) <;> first | exact h9 | omega)]; exact q9, FI_fx p1 (by intro h9; (try dsimp only at h9) <;> first | exact h9 | omega) (fun k => (by intro h9; (try dsimp only at h9) <;> first | exact h9 | omega)) q10⟩, IVM_ag (MA_fx p1 (by intro id h9; (try dsimp only at h9) <;> omega) (by intro id k h9; (try dsimp only at h9) <;> first | exact h9.elim | omega)) qm⟩
set_option maxHeartbeats 4000000 in
theorem L_X11_feed {l : Launch} {V : Vx} {a1 : Int32} {σ0 : Sg} {Qk : Int32 → Sg → Prop} (q : INV V σ0) (h9ret : ∀ (r : Int32) (σ' : Sg), INV V σ' → Qk r σ') : K_X11_feed l V a1 σ0 Qk := by
  refine k_X11_feed q.1.1 (fun r σ' p0 p1 => h9ret r σ' ?_)
  exact INV_fx (FX_tr FX_rf p1 (by intro id h9; (try dsimp only at h9) <;> unfold Sf <;> first | exact h9.elim | omega) (by intro id k h9; (try dsimp only at h9) <;> unfold Sf Ff <;> first | exact h9.elim | omega)) p0 q
set_option maxHeartbeats 4000000 in
theorem L_X11_told {l : Launch} {V : Vx} {a1 : Int32} {σ0 : Sg} {Qk : Int32 → Sg → Prop} (q : INV V σ0) (h9ret : ∀ (r : Int32) (σ' : Sg), INV V σ' → Qk r σ') : K_X11_told l V a1 σ0 Qk := by
  refine k_X11_told q.1.1 (fun r σ' p0 p1 => h9ret r σ' ?_)
  exact INV_fx (FX_tr FX_rf p1 (by intro id h9; (try dsimp only at h9) <;> unfold Sf <;> first | exact h9.elim | omega) (by intro id k h9; (try dsimp only at h9) <;> unfold Sf Ff <;> first | exact h9.elim | omega)) p0 q
set_option maxHeartbeats 4000000 in
theorem L_X11_minute {l : Launch} {V : Vx} {σ0 : Sg} {Qk : Int32 → Sg → Prop} (q : INV V σ0) (h9ret : ∀ (r : Int32) (σ' : Sg), INV V σ' → Qk r σ') : K_X11_minute l V σ0 Qk := by
  refine k_X11_minute q.1.1 q.1.2.1 q.1.2.2.2.2.2.1 (fun r σ' p0 p1 p2 p3 => h9ret r σ' ?_)
  obtain ⟨⟨q1, q2, q3, q4, q5, q6, q7, q8, q9, q10⟩, qm⟩ := q
  exact ⟨⟨p0, p2, NN_fx q3 p1 (by intro h9; (try dsimp only at h9) <;> first | exact h9 | omega) (by intro h9; (try dsimp only at h9) <;> first | exact h9 | omega) (by intro h9; (try dsimp only at h9) <;> first | exact h9 | omega) (by intro h9; (try dsimp only at h9) <;> first | exact h9 | omega) (by intro h9; (try dsimp only at h9) <;> first | exact h9 | omega) (fun k => (by intro h9; (try dsimp only at h9) <;> first | exact h9 | omega)) (fun k => (by intro h9; (try dsimp only at h9) <;> first | exact h9 | omega)), by rw [FX_i p1 (id := 1) (k := 3) (by intro h9; (try dsimp only at h9) <;> first | exact h9 | omega) (by intro h9; (try dsimp only at h9) <;> first | exact h9 | omega), FX_i p1 (id := 1) (k := 1) (by intro h9; (try dsimp only at h9) <;> first | exact h9 | omega) (by intro h9; (try dsimp only at h9) <;> first | exact h9 | omega)]; exact q4, by rw [FX_i p1 (id := 17) (k := 3) (by intro h9; (try dsimp only at h9) <;> first | exact h9 | omega) (by intro h9; (try dsimp only at h9) <;> first | exact h9 | omega), FX_i p1 (id := 17) (k := 1) (by intro h9; (try dsimp only at h9) <;> first | exact h9 | omega) (by intro h9; (try dsimp only at h9) <;> first | exact h9 | omega)]; exact q5, p3, by rw [FX_i p1 (id := 17) (k := 9) (by intro h9; (try dsimp only at h9) <;> first | exact h9 | omega) (by intro h9; (try dsimp only at h9) <;> first | exact h9 | omega)]; exact q7, by rw [FX_i p1 (id := 9) (k := 1) (by intro h9; (try dsimp only at h9) <;> first | exact h9 | omega) (by intro h9; (try dsimp only at h9) <;> first | exact h9 | omega)]; exact q8, by rw [FX_i p1 (id := 25) (k := 1) (by intro h9; (try dsimp only at h9) <;> first | exact h9 | omega) (by intro h9; (try dsimp only at h9) <;> first | exact h9 | omega)]; exact q9, FI_fx p1 (by intro h9; (try dsimp only at h9) <;> first | exact h9 | omega) (fun k => (by intro h9; (try dsimp only at h9) <;> first | exact h9 | omega)) q10⟩, IVM_ag (MA_fx p1 (by intro id h9; (try dsimp only at h9) <;> omega) (by intro id k h9; (try dsimp only at h9) <;> first | exact h9.elim | omega)) qm⟩
set_option maxHeartbeats 4000000 in
theorem L_X11_whet {l : Launch} {V : Vx} {σ0 : Sg} {Qk : Int32 → Sg → Prop} (q : INV V σ0) (h9ret : ∀ (r : Int32) (σ' : Sg), INV V σ' → Qk r σ') : K_X11_whet l V σ0 Qk := by
  refine k_X11_whet q.1.1 q.1.2.1 q.1.2.2.2.2.2.1 (fun r σ' p0 p1 p2 p3 => h9ret r σ' ?_)
  obtain ⟨⟨q1, q2, q3, q4, q5, q6, q7, q8, q9, q10⟩, qm⟩ := q
  exact ⟨⟨p0, p2, NN_fx q3 p1 (by intro h9; (try dsimp only at h9) <;> first | exact h9 | omega) (by intro h9; (try dsimp only at h9) <;> first | exact h9 | omega) (by intro h9; (try dsimp only at h9) <;> first | exact h9 | omega) (by intro h9; (try dsimp only at h9) <;> first | exact h9 | omega) (by intro h9; (try dsimp only at h9) <;> first | exact h9 | omega) (fun k => (by intro h9; (try dsimp only at h9) <;> first | exact h9 | omega)) (fun k => (by intro h9; (try dsimp only at h9) <;> first | exact h9 | omega)), by rw [FX_i p1 (id := 1) (k := 3) (by intro h9; (try dsimp only at h9) <;> first | exact h9 | omega) (by intro h9; (try dsimp only at h9) <;> first | exact h9 | omega), FX_i p1 (id := 1) (k := 1) (by intro h9; (try dsimp only at h9) <;> first | exact h9 | omega) (by intro h9; (try dsimp only at h9) <;> first | exact h9 | omega)]; exact q4, by rw [FX_i p1 (id := 17) (k := 3) (by intro h9; (try dsimp only at h9) <;> first | exact h9 | omega) (by intro h9; (try dsimp only at h9) <;> first | exact h9 | omega), FX_i p1 (id := 17) (k := 1) (by intro h9; (try dsimp only at h9) <;> first | exact h9 | omega) (by intro h9; (try dsimp only at h9) <;> first | exact h9 | omega)]; exact q5, p3, by rw [FX_i p1 (id := 17) (k := 9) (by intro h9; (try dsimp only at h9) <;> first | exact h9 | omega) (by intro h9; (try dsimp only at h9) <;> first | exact h9 | omega)]; exact q7, by rw [FX_i p1 (id := 9) (k := 1) (by intro h9; (try dsimp only at h9) <;> first | exact h9 | omega) (by intro h9; (try dsimp only at h9) <;> first | exact h9 | omega)]; exact q8, by rw [FX_i p1 (id := 25) (k := 1) (by intro h9; (try dsimp only at h9) <;> first | exact h9 | omega) (by intro h9; (try dsimp only at h9) <;> first | exact h9 | omega)]; exact q9, FI_fx p1 (by intro h9; (try dsimp only at h9) <;> first | exact h9 | omega) (fun k => (by intro h9; (try dsimp only at h9) <;> first | exact h9 | omega)) q10⟩, IVM_ag (MA_fx p1 (by intro id h9; (try dsimp only at h9) <;> omega) (by intro id k h9; (try dsimp only at h9) <;> first | exact h9.elim | omega)) qm⟩
set_option maxHeartbeats 4000000 in
theorem L_X11_pause {l : Launch} {V : Vx} {a1 : Int32} {σ0 : Sg} {Qk : Int32 → Sg → Prop} (q : INV V σ0) (h9ret : ∀ (r : Int32) (σ' : Sg), INV V σ' → Qk r σ') : K_X11_pause l V a1 σ0 Qk := by
  refine k_X11_pause q.1.1 q.1.2.1 q.1.2.2.2.2.2.1 (fun r σ' p0 p1 p2 p3 => h9ret r σ' ?_)
  obtain ⟨⟨q1, q2, q3, q4, q5, q6, q7, q8, q9, q10⟩, qm⟩ := q
  exact ⟨⟨p0, p2, NN_fx q3 p1 (by intro h9; (try dsimp only at h9) <;> first | exact h9 | omega) (by intro h9; (try dsimp only at h9) <;> first | exact h9 | omega) (by intro h9; (try dsimp only at h9) <;> first | exact h9 | omega) (by intro h9; (try dsimp only at h9) <;> first | exact h9 | omega) (by intro h9; (try dsimp only at h9) <;> first | exact h9 | omega) (fun k => (by intro h9; (try dsimp only at h9) <;> first | exact h9 | omega)) (fun k => (by intro h9; (try dsimp only at h9) <;> first | exact h9 | omega)), by rw [FX_i p1 (id := 1) (k := 3) (by intro h9; (try dsimp only at h9) <;> first | exact h9 | omega) (by intro h9; (try dsimp only at h9) <;> first | exact h9 | omega), FX_i p1 (id := 1) (k := 1) (by intro h9; (try dsimp only at h9) <;> first | exact h9 | omega) (by intro h9; (try dsimp only at h9) <;> first | exact h9 | omega)]; exact q4, by rw [FX_i p1 (id := 17) (k := 3) (by intro h9; (try dsimp only at h9) <;> first | exact h9 | omega) (by intro h9; (try dsimp only at h9) <;> first | exact h9 | omega), FX_i p1 (id := 17) (k := 1) (by intro h9; (try dsimp only at h9) <;> first | exact h9 | omega) (by intro h9; (try dsimp only at h9) <;> first | exact h9 | omega)]; exact q5, p3, by rw [FX_i p1 (id := 17) (k := 9) (by intro h9; (try dsimp only at h9) <;> first | exact h9 | omega) (by intro h9; (try dsimp only at h9) <;> first | exact h9 | omega)]; exact q7, by rw [FX_i p1 (id := 9) (k := 1) (by intro h9; (try dsimp only at h9) <;> first | exact h9 | omega) (by intro h9; (try dsimp only at h9) <;> first | exact h9 | omega)]; exact q8, by rw [FX_i p1 (id := 25) (k := 1) (by intro h9; (try dsimp only at h9) <;> first | exact h9 | omega) (by intro h9; (try dsimp only at h9) <;> first | exact h9 | omega)]; exact q9, FI_fx p1 (by intro h9; (try dsimp only at h9) <;> first | exact h9 | omega) (fun k => (by intro h9; (try dsimp only at h9) <;> first | exact h9 | omega)) q10⟩, IVM_ag (MA_fx p1 (by intro id h9; (try dsimp only at h9) <;> omega) (by intro id k h9; (try dsimp only at h9) <;> first | exact h9.elim | omega)) qm⟩
set_option maxHeartbeats 4000000 in
theorem L_X11_on {l : Launch} {V : Vx} {a1 : Int32} {a2 : Int32} {σ0 : Sg} {Qk : Int32 → Sg → Prop} (q : INV V σ0) (h9ret : ∀ (r : Int32) (σ' : Sg), INV V σ' → Qk r σ') : K_X11_on l V a1 a2 σ0 Qk := by
  refine k_X11_on q.1.1 q.1.2.1 q.1.2.2.2.2.2.1 (fun r σ' p0 p1 p2 => h9ret r σ' ?_)
  exact INV_fx (FX_tr FX_rf p1 (by intro id h9; (try dsimp only at h9) <;> unfold Sf <;> first | exact h9.elim | omega) (by intro id k h9; (try dsimp only at h9) <;> unfold Sf Ff <;> first | exact h9.elim | omega)) p0 q
set_option maxHeartbeats 4000000 in
theorem L_X11_done {l : Launch} {V : Vx} {σ0 : Sg} {Qk : Int32 → Sg → Prop} (q : INV V σ0) (h9ret : ∀ (r : Int32) (σ' : Sg), INV V σ' → Qk r σ') : K_X11_done l V σ0 Qk := by
  refine k_X11_done q.1.1 q.1.2.1 q.1.2.2.2.2.2.1 (fun r σ' p0 p1 p2 => h9ret r σ' ?_)
  exact INV_fx (FX_tr FX_rf p1 (by intro id h9; (try dsimp only at h9) <;> unfold Sf <;> first | exact h9.elim | omega) (by intro id k h9; (try dsimp only at h9) <;> unfold Sf Ff <;> first | exact h9.elim | omega)) p0 q
set_option maxHeartbeats 4000000 in
theorem L_X11_order {l : Launch} {V : Vx} {a1 : Int32} {a2 : Int32} {σ0 : Sg} {Qk : Int32 → Sg → Prop} (q : INV V σ0) (h9ret : ∀ (r : Int32) (σ' : Sg), INV V σ' → Qk r σ') : K_X11_order l V a1 a2 σ0 Qk := by
  refine k_X11_order q.1.1 q.1.2.1 q.1.2.2.2.2.2.1 (fun r σ' p0 p1 p2 => h9ret r σ' ?_)
  exact INV_fx (FX_tr FX_rf p1 (by intro id h9; (try dsimp only at h9) <;> unfold Sf <;> first | exact h9.elim | omega) (by intro id k h9; (try dsimp only at h9) <;> unfold Sf Ff <;> first | exact h9.elim | omega)) p0 q
set_option maxHeartbeats 4000000 in
theorem L_X11_whets {l : Launch} {V : Vx} {a1 : Int32} {a2 : Int32} {σ0 : Sg} {Qk : Int32 → Sg → Prop} (q : INV V σ0) (h9ret : ∀ (r : Int32) (σ' : Sg), INV V σ' → Qk r σ') : K_X11_whets l V a1 a2 σ0 Qk := by
  refine k_X11_whets q.1.1 q.1.2.1 q.1.2.2.2.2.2.1 (fun r σ' p0 p1 p2 => h9ret r σ' ?_)
  exact INV_fx (FX_tr FX_rf p1 (by intro id h9; (try dsimp only at h9) <;> unfold Sf <;> first | exact h9.elim | omega) (by intro id k h9; (try dsimp only at h9) <;> unfold Sf Ff <;> first | exact h9.elim | omega)) p0 q
set_option maxHeartbeats 4000000 in
theorem L_X11_apart {l : Launch} {V : Vx} {a1 : Int32} {a2 : Int32} {σ0 : Sg} {Qk : Int32 → Sg → Prop} (q : INV V σ0) (h9ret : ∀ (r : Int32) (σ' : Sg), INV V σ' → Qk r σ') : K_X11_apart l V a1 a2 σ0 Qk := by
  refine k_X11_apart q.1.1 q.1.2.1 q.1.2.2.2.2.2.1 (fun r σ' p0 p1 p2 => h9ret r σ' ?_)
  exact INV_fx (FX_tr FX_rf p1 (by intro id h9; (try dsimp only at h9) <;> unfold Sf <;> first | exact h9.elim | omega) (by intro id k h9; (try dsimp only at h9) <;> unfold Sf Ff <;> first | exact h9.elim | omega)) p0 q
set_option maxHeartbeats 4000000 in
theorem L_X11_stop {l : Launch} {V : Vx} {a1 : Int32} {a2 : Int32} {a3 : Int32} {a4 : Int32} {σ0 : Sg} {Qk : Int32 → Sg → Prop} (q : INV V σ0) (h9ret : ∀ (r : Int32) (σ' : Sg), INV V σ' → Qk r σ') : K_X11_stop l V a1 a2 a3 a4 σ0 Qk := by
  refine k_X11_stop q.1.1 q.1.2.1 q.1.2.2.2.2.2.1 (fun r σ' p0 p1 p2 => h9ret r σ' ?_)
  exact INV_fx (FX_tr FX_rf p1 (by intro id h9; (try dsimp only at h9) <;> unfold Sf <;> first | exact h9.elim | omega) (by intro id k h9; (try dsimp only at h9) <;> unfold Sf Ff <;> first | exact h9.elim | omega)) p0 q
set_option maxHeartbeats 4000000 in
theorem L_X11_alone {l : Launch} {V : Vx} {a1 : Int32} {σ0 : Sg} {Qk : Int32 → Sg → Prop} (q : INV V σ0) (h9ret : ∀ (r : Int32) (σ' : Sg), INV V σ' → Qk r σ') : K_X11_alone l V a1 σ0 Qk := by
  refine k_X11_alone q.1.1 q.1.2.1 q.1.2.2.2.2.2.1 (fun r σ' p0 p1 p2 => h9ret r σ' ?_)
  exact INV_fx (FX_tr FX_rf p1 (by intro id h9; (try dsimp only at h9) <;> unfold Sf <;> first | exact h9.elim | omega) (by intro id k h9; (try dsimp only at h9) <;> unfold Sf Ff <;> first | exact h9.elim | omega)) p0 q
set_option maxHeartbeats 4000000 in
theorem L_X11_rest {l : Launch} {V : Vx} {a1 : Int32} {a2 : Int32} {σ0 : Sg} {Qk : Int32 → Sg → Prop} (q : INV V σ0) (h9ret : ∀ (r : Int32) (σ' : Sg), INV V σ' → Qk r σ') : K_X11_rest l V a1 a2 σ0 Qk := by
  refine k_X11_rest q.1.1 q.1.2.1 q.1.2.2.2.2.2.1 (fun r σ' p0 p1 p2 => h9ret r σ' ?_)
  exact INV_fx (FX_tr FX_rf p1 (by intro id h9; (try dsimp only at h9) <;> unfold Sf <;> first | exact h9.elim | omega) (by intro id k h9; (try dsimp only at h9) <;> unfold Sf Ff <;> first | exact h9.elim | omega)) p0 q
set_option maxHeartbeats 4000000 in
theorem L_X11_paused {l : Launch} {V : Vx} {a1 : Int32} {a2 : Int32} {σ0 : Sg} {Qk : Int32 → Sg → Prop} (q : INV V σ0) (h9ret : ∀ (r : Int32) (σ' : Sg), INV V σ' → Qk r σ') : K_X11_paused l V a1 a2 σ0 Qk := by
  refine k_X11_paused q.1.1 q.1.2.1 q.1.2.2.2.2.2.1 (fun r σ' p0 p1 p2 => h9ret r σ' ?_)
  exact INV_fx (FX_tr FX_rf p1 (by intro id h9; (try dsimp only at h9) <;> unfold Sf <;> first | exact h9.elim | omega) (by intro id k h9; (try dsimp only at h9) <;> unfold Sf Ff <;> first | exact h9.elim | omega)) p0 q
set_option maxHeartbeats 4000000 in
theorem L_X11_see {l : Launch} {V : Vx} {a1 : Int32} {a2 : Int32} {a3 : Int32} {σ0 : Sg} {Qk : Int32 → Sg → Prop} (q : INV V σ0) (h9ret : ∀ (r : Int32) (σ' : Sg), INV V σ' → Qk r σ') : K_X11_see l V a1 a2 a3 σ0 Qk := by
  refine k_X11_see q.1.1 q.1.2.2.2.2.2.2.2.1 (fun r σ' p0 p1 p2 => h9ret r σ' ?_)
  obtain ⟨⟨q1, q2, q3, q4, q5, q6, q7, q8, q9, q10⟩, qm⟩ := q
  exact ⟨⟨p0, NN_fx q2 p1 (by intro h9; (try dsimp only at h9) <;> first | exact h9 | omega) (by intro h9; (try dsimp only at h9) <;> first | exact h9 | omega) (by intro h9; (try dsimp only at h9) <;> first | exact h9 | omega) (by intro h9; (try dsimp only at h9) <;> first | exact h9 | omega) (by intro h9; (try dsimp only at h9) <;> first | exact h9 | omega) (fun k => (by intro h9; (try dsimp only at h9) <;> first | exact h9 | omega)) (fun k => (by intro h9; (try dsimp only at h9) <;> first | exact h9 | omega)), NN_fx q3 p1 (by intro h9; (try dsimp only at h9) <;> first | exact h9 | omega) (by intro h9; (try dsimp only at h9) <;> first | exact h9 | omega) (by intro h9; (try dsimp only at h9) <;> first | exact h9 | omega) (by intro h9; (try dsimp only at h9) <;> first | exact h9 | omega) (by intro h9; (try dsimp only at h9) <;> first | exact h9 | omega) (fun k => (by intro h9; (try dsimp only at h9) <;> first | exact h9 | omega)) (fun k => (by intro h9; (try dsimp only at h9) <;> first | exact h9 | omega)), by rw [FX_i p1 (id := 1) (k := 3) (by intro h9; (try dsimp only at h9) <;> first | exact h9 | omega) (by intro h9; (try dsimp only at h9) <;> first | exact h9 | omega), FX_i p1 (id := 1) (k := 1) (by intro h9; (try dsimp only at h9) <;> first | exact h9 | omega) (by intro h9; (try dsimp only at h9) <;> first | exact h9 | omega)]; exact q4, by rw [FX_i p1 (id := 17) (k := 3) (by intro h9; (try dsimp only at h9) <;> first | exact h9 | omega) (by intro h9; (try dsimp only at h9) <;> first | exact h9 | omega), FX_i p1 (id := 17) (k := 1) (by intro h9; (try dsimp only at h9) <;> first | exact h9 | omega) (by intro h9; (try dsimp only at h9) <;> first | exact h9 | omega)]; exact q5, by rw [FX_i p1 (id := 1) (k := 9) (by intro h9; (try dsimp only at h9) <;> first | exact h9 | omega) (by intro h9; (try dsimp only at h9) <;> first | exact h9 | omega)]; exact q6, by rw [FX_i p1 (id := 17) (k := 9) (by intro h9; (try dsimp only at h9) <;> first | exact h9 | omega) (by intro h9; (try dsimp only at h9) <;> first | exact h9 | omega)]; exact q7, p2, by rw [FX_i p1 (id := 25) (k := 1) (by intro h9; (try dsimp only at h9) <;> first | exact h9 | omega) (by intro h9; (try dsimp only at h9) <;> first | exact h9 | omega)]; exact q9, FI_fx p1 (by intro h9; (try dsimp only at h9) <;> first | exact h9 | omega) (fun k => (by intro h9; (try dsimp only at h9) <;> first | exact h9 | omega)) q10⟩, IVM_ag (MA_fx p1 (by intro id h9; (try dsimp only at h9) <;> omega) (by intro id k h9; (try dsimp only at h9) <;> first | exact h9.elim | omega)) qm⟩
set_option maxHeartbeats 4000000 in
theorem L_X11_who {l : Launch} {V : Vx} {σ0 : Sg} {Qk : Int32 → Sg → Prop} (q : INV V σ0) (h9ret : ∀ (r : Int32) (σ' : Sg), INV V σ' → Qk r σ') : K_X11_who l V σ0 Qk := by
  refine k_X11_who q.1.1 q.1.2.1 q.1.2.2.2.2.2.1 (fun r σ' p0 p1 p2 => h9ret r σ' ?_)
  exact INV_fx (FX_tr FX_rf p1 (by intro id h9; (try dsimp only at h9) <;> unfold Sf <;> first | exact h9.elim | omega) (by intro id k h9; (try dsimp only at h9) <;> unfold Sf Ff <;> first | exact h9.elim | omega)) p0 q
set_option maxHeartbeats 4000000 in
theorem L_X11_odds {l : Launch} {V : Vx} {a1 : Int32} {a2 : Int32} {a3 : Int32} {σ0 : Sg} {Qk : Int64 → Sg → Prop} (q : INV V σ0) (h9ret : ∀ (r : Int64) (σ' : Sg), INV V σ' → Qk r σ') : K_X11_odds l V a1 a2 a3 σ0 Qk := by
  refine k_X11_odds q.1.1 q.1.2.1 q.1.2.2.2.2.2.1 (fun r σ' p0 p1 p2 => h9ret r σ' ?_)
  exact INV_fx (FX_tr FX_rf p1 (by intro id h9; (try dsimp only at h9) <;> unfold Sf <;> first | exact h9.elim | omega) (by intro id k h9; (try dsimp only at h9) <;> unfold Sf Ff <;> first | exact h9.elim | omega)) p0 q
set_option maxHeartbeats 4000000 in
theorem L_X11_mean {l : Launch} {V : Vx} {a1 : Int32} {a2 : Int32} {σ0 : Sg} {Qk : Int64 → Sg → Prop} (q : INV V σ0) (h9ret : ∀ (r : Int64) (σ' : Sg), INV V σ' → Qk r σ') : K_X11_mean l V a1 a2 σ0 Qk := by
  refine k_X11_mean q.1.1 q.1.2.1 q.1.2.2.2.2.2.1 (fun r σ' p0 p1 p2 => h9ret r σ' ?_)
  exact INV_fx (FX_tr FX_rf p1 (by intro id h9; (try dsimp only at h9) <;> unfold Sf <;> first | exact h9.elim | omega) (by intro id k h9; (try dsimp only at h9) <;> unfold Sf Ff <;> first | exact h9.elim | omega)) p0 q
set_option maxHeartbeats 4000000 in
theorem L_X11_plan {l : Launch} {V : Vx} {a1 : Int32} {σ0 : Sg} {Qk : Int32 → Sg → Prop} (q : INV V σ0) (h9ret : ∀ (r : Int32) (σ' : Sg), INV V σ' → Qk r σ') : K_X11_plan l V a1 σ0 Qk := by
  refine k_X11_plan q.1.1 (fun r σ' p0 p1 => h9ret r σ' ?_)
  exact INV_fx (FX_tr FX_rf p1 (by intro id h9; (try dsimp only at h9) <;> unfold Sf <;> first | exact h9.elim | omega) (by intro id k h9; (try dsimp only at h9) <;> unfold Sf Ff <;> first | exact h9.elim | omega)) p0 q
set_option maxHeartbeats 4000000 in
theorem L_X11_planned {l : Launch} {V : Vx} {σ0 : Sg} {Qk : Int32 → Sg → Prop} (q : INV V σ0) (h9ret : ∀ (r : Int32) (σ' : Sg), INV V σ' → Qk r σ') : K_X11_planned l V σ0 Qk := by
  refine k_X11_planned q.1.1 q.1.2.1 q.1.2.2.2.2.2.1 (fun r σ' p0 p1 p2 => h9ret r σ' ?_)
  exact INV_fx (FX_tr FX_rf p1 (by intro id h9; (try dsimp only at h9) <;> unfold Sf <;> first | exact h9.elim | omega) (by intro id k h9; (try dsimp only at h9) <;> unfold Sf Ff <;> first | exact h9.elim | omega)) p0 q
set_option maxHeartbeats 4000000 in
theorem L_X11_book {l : Launch} {V : Vx} {a1 : Int32} {σ0 : Sg} {Qk : Int32 → Sg → Prop} (q : INV V σ0) (h9ret : ∀ (r : Int32) (σ' : Sg), INV V σ' → Qk r σ') : K_X11_book l V a1 σ0 Qk := by
  refine k_X11_book q.1.1 (fun r σ' p0 p1 => h9ret r σ' ?_)
  exact INV_fx (FX_tr FX_rf p1 (by intro id h9; (try dsimp only at h9) <;> unfold Sf <;> first | exact h9.elim | omega) (by intro id k h9; (try dsimp only at h9) <;> unfold Sf Ff <;> first | exact h9.elim | omega)) p0 q
set_option maxHeartbeats 4000000 in
theorem L_X11_looked {l : Launch} {V : Vx} {σ0 : Sg} {Qk : Int32 → Sg → Prop} (q : INV V σ0) (h9ret : ∀ (r : Int32) (σ' : Sg), INV V σ' → Qk r σ') : K_X11_looked l V σ0 Qk := by
  refine k_X11_looked q.1.1 q.1.2.1 q.1.2.2.2.2.2.1 (fun r σ' p0 p1 p2 => h9ret r σ' ?_)
  exact INV_fx (FX_tr FX_rf p1 (by intro id h9; (try dsimp only at h9) <;> unfold Sf <;> first | exact h9.elim | omega) (by intro id k h9; (try dsimp only at h9) <;> unfold Sf Ff <;> first | exact h9.elim | omega)) p0 q
set_option maxHeartbeats 4000000 in
theorem L_X11_judge {l : Launch} {V : Vx} {a1 : Int32} {a2 : Int32} {σ0 : Sg} {Qk : Int32 → Sg → Prop} (q : INV V σ0) (h9ret : ∀ (r : Int32) (σ' : Sg), INV V σ' → Qk r σ') : K_X11_judge l V a1 a2 σ0 Qk := by
  refine k_X11_judge q.1.1 (fun r σ' p0 p1 => h9ret r σ' ?_)
  exact INV_fx (FX_tr FX_rf p1 (by intro id h9; (try dsimp only at h9) <;> unfold Sf <;> first | exact h9.elim | omega) (by intro id k h9; (try dsimp only at h9) <;> unfold Sf Ff <;> first | exact h9.elim | omega)) p0 q
set_option maxHeartbeats 4000000 in
theorem L_X11_image {l : Launch} {V : Vx} {σ0 : Sg} {Qk : Int32 → Sg → Prop} (q : INV V σ0) (h9ret : ∀ (r : Int32) (σ' : Sg), INV V σ' → Qk r σ') : K_X11_image l V σ0 Qk := by
  refine k_X11_image q.1.1 q.1.2.1 (fun r σ' p0 p1 p2 p3 p4 p5 p6 p7 => h9ret r σ' ?_)
  obtain ⟨⟨q1, q2, q3, q4, q5, q6, q7, q8, q9, q10⟩, qm⟩ := q
  exact ⟨⟨p0, p2, p3, by rw [FX_i p1 (id := 1) (k := 3) (by intro h9; (try dsimp only at h9) <;> first | exact h9 | omega) (by intro h9; (try dsimp only at h9) <;> first | exact h9 | omega), FX_i p1 (id := 1) (k := 1) (by intro h9; (try dsimp only at h9) <;> first | exact h9 | omega) (by intro h9; (try dsimp only at h9) <;> first | exact h9 | omega)]; exact q4, by rw [p5, p4]; exact q4, by rw [FX_i p1 (id := 1) (k := 9) (by intro h9; (try dsimp only at h9) <;> first | exact h9 | omega) (by intro h9; (try dsimp only at h9) <;> first | exact h9 | omega)]; exact q6, by rw [p6]; exact q6, by rw [FX_i p1 (id := 9) (k := 1) (by intro h9; (try dsimp only at h9) <;> first | exact h9 | omega) (by intro h9; (try dsimp only at h9) <;> first | exact h9 | omega)]; exact q8, by rw [p7]; exact q8, FI_fx p1 (by intro h9; (try dsimp only at h9) <;> first | exact h9 | omega) (fun k => (by intro h9; (try dsimp only at h9) <;> first | exact h9 | omega)) q10⟩, IVM_ag (MA_fx p1 (by intro id h9; (try dsimp only at h9) <;> omega) (by intro id k h9; (try dsimp only at h9) <;> first | exact h9.elim | omega)) qm⟩
set_option maxHeartbeats 4000000 in
theorem L_X11_undo {l : Launch} {V : Vx} {σ0 : Sg} {Qk : Int32 → Sg → Prop} (q : INV V σ0) (h9ret : ∀ (r : Int32) (σ' : Sg), INV V σ' → Qk r σ') : K_X11_undo l V σ0 Qk := by
  refine k_X11_undo q.1.1 q.1.2.1 q.1.2.2.1 q.1.2.2.2.2.2.1 q.1.2.2.2.2.2.2.1 q.1.2.2.2.1 q.1.2.2.2.2.1 q.1.2.2.2.2.2.2.2.1 q.1.2.2.2.2.2.2.2.2.1 (fun r σ' p0 p1 p2 p3 p4 p5 p6 => h9ret r σ' ?_)
  obtain ⟨⟨q1, q2, q3, q4, q5, q6, q7, q8, q9, q10⟩, qm⟩ := q
  exact ⟨⟨p0, p2, p3, p5, by rw [FX_i p1 (id := 17) (k := 3) (by intro h9; (try dsimp only at h9) <;> first | exact h9 | omega) (by intro h9; (try dsimp only at h9) <;> first | exact h9 | omega), FX_i p1 (id := 17) (k := 1) (by intro h9; (try dsimp only at h9) <;> first | exact h9 | omega) (by intro h9; (try dsimp only at h9) <;> first | exact h9 | omega)]; exact q5, p4, by rw [FX_i p1 (id := 17) (k := 9) (by intro h9; (try dsimp only at h9) <;> first | exact h9 | omega) (by intro h9; (try dsimp only at h9) <;> first | exact h9 | omega)]; exact q7, p6, by rw [FX_i p1 (id := 25) (k := 1) (by intro h9; (try dsimp only at h9) <;> first | exact h9 | omega) (by intro h9; (try dsimp only at h9) <;> first | exact h9 | omega)]; exact q9, FI_fx p1 (by intro h9; (try dsimp only at h9) <;> first | exact h9 | omega) (fun k => (by intro h9; (try dsimp only at h9) <;> first | exact h9 | omega)) q10⟩, IVM_ag (MA_fx p1 (by intro id h9; (try dsimp only at h9) <;> omega) (by intro id k h9; (try dsimp only at h9) <;> first | exact h9.elim | omega)) qm⟩
set_option maxHeartbeats 4000000 in
theorem L_X11_act {l : Launch} {V : Vx} {a1 : Int32} {a2 : Int32} {a3 : Int32} {σ0 : Sg} {Qk : Int32 → Sg → Prop} (q : INV V σ0) (h9ret : ∀ (r : Int32) (σ' : Sg), INV V σ' → Qk r σ') : K_X11_act l V a1 a2 a3 σ0 Qk := by
  refine k_X11_act q.1.1 q.1.2.1 (fun r σ' p0 p1 p2 => h9ret r σ' ?_)
  exact INV_fx (FX_tr FX_rf p1 (by intro id h9; (try dsimp only at h9) <;> unfold Sf <;> first | exact h9.elim | omega) (by intro id k h9; (try dsimp only at h9) <;> unfold Sf Ff <;> first | exact h9.elim | omega)) p0 q
set_option maxHeartbeats 4000000 in
theorem L_X11_trace {l : Launch} {V : Vx} {a1 : Int32} {σ0 : Sg} {Qk : Int32 → Sg → Prop} (q : INV V σ0) (h9ret : ∀ (r : Int32) (σ' : Sg), INV V σ' → Qk r σ') : K_X11_trace l V a1 σ0 Qk := by
  refine k_X11_trace q.1.1 (fun r σ' p0 p1 => h9ret r σ' ?_)
  exact INV_fx (FX_tr FX_rf p1 (by intro id h9; (try dsimp only at h9) <;> unfold Sf <;> first | exact h9.elim | omega) (by intro id k h9; (try dsimp only at h9) <;> unfold Sf Ff <;> first | exact h9.elim | omega)) p0 q
set_option maxHeartbeats 4000000 in
theorem L_X11_taken {l : Launch} {V : Vx} {a1 : Int32} {a2 : Int32} {σ0 : Sg} {Qk : Int32 → Sg → Prop} (q : INV V σ0) (h9ret : ∀ (r : Int32) (σ' : Sg), INV V σ' → Qk r σ') : K_X11_taken l V a1 a2 σ0 Qk := by
  refine k_X11_taken q.1.1 q.1.2.1 (fun r σ' p0 p1 p2 => h9ret r σ' ?_)
  exact INV_fx (FX_tr FX_rf p1 (by intro id h9; (try dsimp only at h9) <;> unfold Sf <;> first | exact h9.elim | omega) (by intro id k h9; (try dsimp only at h9) <;> unfold Sf Ff <;> first | exact h9.elim | omega)) p0 q
set_option maxHeartbeats 4000000 in
theorem L_X11_count {l : Launch} {V : Vx} {a1 : Int32} {σ0 : Sg} {Qk : Int32 → Sg → Prop} (q : INV V σ0) (h9ret : ∀ (r : Int32) (σ' : Sg), INV V σ' → Qk r σ') : K_X11_count l V a1 σ0 Qk := by
  refine k_X11_count q.1.1 (fun r σ' p0 p1 => h9ret r σ' ?_)
  exact INV_fx (FX_tr FX_rf p1 (by intro id h9; (try dsimp only at h9) <;> unfold Sf <;> first | exact h9.elim | omega) (by intro id k h9; (try dsimp only at h9) <;> unfold Sf Ff <;> first | exact h9.elim | omega)) p0 q
set_option maxHeartbeats 4000000 in
theorem L_X11_tape {l : Launch} {V : Vx} {a1 : Int32} {a2 : Int32} {a3 : Int32} {σ0 : Sg} {Qk : Int32 → Sg → Prop} (q : INV V σ0) (h9ret : ∀ (r : Int32) (σ' : Sg), INV V σ' → Qk r σ') : K_X11_tape l V a1 a2 a3 σ0 Qk := by
  refine k_X11_tape q.1.1 (fun r σ' p0 p1 => h9ret r σ' ?_)
  exact INV_fx (FX_tr FX_rf p1 (by intro id h9; (try dsimp only at h9) <;> unfold Sf <;> first | exact h9.elim | omega) (by intro id k h9; (try dsimp only at h9) <;> unfold Sf Ff <;> first | exact h9.elim | omega)) p0 q
set_option maxHeartbeats 4000000 in
theorem L_X11_item {l : Launch} {V : Vx} {a1 : Int32} {a2 : Int32} {a3 : Int64} {σ0 : Sg} {Qk : Int32 → Sg → Prop} (q : INV V σ0) (h9ret : ∀ (r : Int32) (σ' : Sg), INV V σ' → Qk r σ') : K_X11_item l V a1 a2 a3 σ0 Qk := by
  refine k_X11_item q.1.1 (fun r σ' p0 p1 => h9ret r σ' ?_)
  exact INV_fx (FX_tr FX_rf p1 (by intro id h9; (try dsimp only at h9) <;> unfold Sf <;> first | exact h9.elim | omega) (by intro id k h9; (try dsimp only at h9) <;> unfold Sf Ff <;> first | exact h9.elim | omega)) p0 q
set_option maxHeartbeats 4000000 in
theorem L_X11_read {l : Launch} {V : Vx} {a1 : Int32} {a2 : Int32} {σ0 : Sg} {Qk : Int64 → Sg → Prop} (q : INV V σ0) (h9ret : ∀ (r : Int64) (σ' : Sg), INV V σ' → Qk r σ') : K_X11_read l V a1 a2 σ0 Qk := by
  refine k_X11_read q.1.1 (fun r σ' p0 p1 => h9ret r σ' ?_)
  exact INV_fx (FX_tr FX_rf p1 (by intro id h9; (try dsimp only at h9) <;> unfold Sf <;> first | exact h9.elim | omega) (by intro id k h9; (try dsimp only at h9) <;> unfold Sf Ff <;> first | exact h9.elim | omega)) p0 q
set_option maxHeartbeats 4000000 in
theorem L_X11_shift {l : Launch} {V : Vx} {a1 : Int32} {a2 : Int32} {a3 : Int32} {a4 : Int32} {a5 : Int32} {σ0 : Sg} {Qk : Int32 → Sg → Prop} (q : INV V σ0) (h9ret : ∀ (r : Int32) (σ' : Sg), INV V σ' → Qk r σ') : K_X11_shift l V a1 a2 a3 a4 a5 σ0 Qk := by
  refine k_X11_shift q.1.1 (fun r σ' p0 p1 => h9ret r σ' ?_)
  exact INV_fx (FX_tr FX_rf p1 (by intro id h9; (try dsimp only at h9) <;> unfold Sf <;> first | exact h9.elim | omega) (by intro id k h9; (try dsimp only at h9) <;> unfold Sf Ff <;> first | exact h9.elim | omega)) p0 q
set_option maxHeartbeats 4000000 in
theorem L_X12_mower {l : Launch} {V : Vx} {a1 : Int32} {a2 : Int32} {σ0 : Sg} {Qk : Int32 → Sg → Prop} (q : INV V σ0) (h9ret : ∀ (r : Int32) (σ' : Sg), INV V σ' → Qk r σ') : K_X12_mower l V a1 a2 σ0 Qk := by
  refine kl_X12_mower q.2.1 q.2.2.2.2.1 (fun r σ' p0 p1 p2 p3 => h9ret r σ' ?_)
  refine INV_m p1 (by decide) q ?_
  obtain ⟨-, q1, q2, q3, q4, q5, q6, q7⟩ := q
  exact ⟨p0, by rw [p1.2.1 12 (by decide), p1.2.1 11 (by decide)]; exact q2, by rw [p1.2.1 50 (by decide), p1.2.1 11 (by decide)]; exact q3, p2, PLI_fr q5 p1 (by decide) (by decide), by rw [p1.2.1 1 (by decide)]; exact q6, by rw [p1.2.1 52 (by decide)]; exact q7⟩
set_option maxHeartbeats 4000000 in
theorem L_X12_of {l : Launch} {V : Vx} {a1 : Int32} {a2 : Int32} {σ0 : Sg} {Qk : Int32 → Sg → Prop} (q : INV V σ0) (h9ret : ∀ (r : Int32) (σ' : Sg), INV V σ' → Qk r σ') : K_X12_of l V a1 a2 σ0 Qk := by
  refine k_X12_of q.2.1 q.2.2.2.2.1 (fun r σ' p0 p1 => h9ret r σ' ?_)
  refine INV_m p1 (by decide) q ?_
  obtain ⟨-, q1, q2, q3, q4, q5, q6, q7⟩ := q
  exact ⟨p0, by rw [p1.2.1 12 (by decide), p1.2.1 11 (by decide)]; exact q2, by rw [p1.2.1 50 (by decide), p1.2.1 11 (by decide)]; exact q3, PL_fr q4 p1 (by decide) (by decide), PLI_fr q5 p1 (by decide) (by decide), by rw [p1.2.1 1 (by decide)]; exact q6, by rw [p1.2.1 52 (by decide)]; exact q7⟩
set_option maxHeartbeats 4000000 in
theorem L_X12_set {l : Launch} {V : Vx} {a1 : Int32} {a2 : Int32} {a3 : Int32} {σ0 : Sg} {Qk : Int32 → Sg → Prop} (q : INV V σ0) (h9ret : ∀ (r : Int32) (σ' : Sg), INV V σ' → Qk r σ') : K_X12_set l V a1 a2 a3 σ0 Qk := by
  refine k_X12_set q.2.1 (fun r σ' p0 p1 => h9ret r σ' ?_)
  refine INV_m p1 (by decide) q ?_
  obtain ⟨-, q1, q2, q3, q4, q5, q6, q7⟩ := q
  exact ⟨p0, by rw [p1.2.1 12 (by decide), p1.2.1 11 (by decide)]; exact q2, by rw [p1.2.1 50 (by decide), p1.2.1 11 (by decide)]; exact q3, PL_fr q4 p1 (by decide) (by decide), PLI_fr q5 p1 (by decide) (by decide), by rw [p1.2.1 1 (by decide)]; exact q6, by rw [p1.2.1 52 (by decide)]; exact q7⟩
set_option maxHeartbeats 4000000 in
theorem L_X12_row {l : Launch} {V : Vx} {a1 : Int32} {a2 : Int32} {a3 : Int32} {σ0 : Sg} {Qk : Int32 → Sg → Prop} (q : INV V σ0) (h9ret : ∀ (r : Int32) (σ' : Sg), INV V σ' → Qk r σ') : K_X12_row l V a1 a2 a3 σ0 Qk := by
  refine k_X12_row q.2.1 (fun r σ' p0 p1 => h9ret r σ' ?_)
  refine INV_m p1 (by decide) q ?_
  obtain ⟨-, q1, q2, q3, q4, q5, q6, q7⟩ := q
  exact ⟨p0, by rw [p1.2.1 12 (by decide), p1.2.1 11 (by decide)]; exact q2, by rw [p1.2.1 50 (by decide), p1.2.1 11 (by decide)]; exact q3, PL_fr q4 p1 (by decide) (by decide), PLI_fr q5 p1 (by decide) (by decide), by rw [p1.2.1 1 (by decide)]; exact q6, by rw [p1.2.1 52 (by decide)]; exact q7⟩
set_option maxHeartbeats 4000000 in
theorem L_X12_place {l : Launch} {V : Vx} {a1 : Int32} {a2 : Int32} {σ0 : Sg} {Qk : Int32 → Sg → Prop} (q : INV V σ0) (h9ret : ∀ (r : Int32) (σ' : Sg), INV V σ' → Qk r σ') : K_X12_place l V a1 a2 σ0 Qk := by
  refine k_X12_place q.2.1 q.2.2.2.2.1 (fun r σ' p0 p1 p2 => h9ret r σ' ?_)
  refine INV_m p1 (by decide) q ?_
  obtain ⟨-, q1, q2, q3, q4, q5, q6, q7⟩ := q
  exact ⟨p0, by rw [p1.2.1 12 (by decide), p1.2.1 11 (by decide)]; exact q2, by rw [p1.2.1 50 (by decide), p1.2.1 11 (by decide)]; exact q3, p2, PLI_fr q5 p1 (by decide) (by decide), by rw [p1.2.1 1 (by decide)]; exact q6, by rw [p1.2.1 52 (by decide)]; exact q7⟩
set_option maxHeartbeats 4000000 in
theorem L_X12_feed {l : Launch} {V : Vx} {a1 : Int32} {σ0 : Sg} {Qk : Int32 → Sg → Prop} (q : INV V σ0) (h9ret : ∀ (r : Int32) (σ' : Sg), INV V σ' → Qk r σ') : K_X12_feed l V a1 σ0 Qk := by
  refine k_X12_feed q.2.1 (fun r σ' p0 p1 => h9ret r σ' ?_)
  refine INV_m p1 (by decide) q ?_
  obtain ⟨-, q1, q2, q3, q4, q5, q6, q7⟩ := q
  exact ⟨p0, by rw [p1.2.1 12 (by decide), p1.2.1 11 (by decide)]; exact q2, by rw [p1.2.1 50 (by decide), p1.2.1 11 (by decide)]; exact q3, PL_fr q4 p1 (by decide) (by decide), PLI_fr q5 p1 (by decide) (by decide), by rw [p1.2.1 1 (by decide)]; exact q6, by rw [p1.2.1 52 (by decide)]; exact q7⟩
set_option maxHeartbeats 4000000 in
theorem L_X12_field {l : Launch} {V : Vx} {σ0 : Sg} {Qk : Int32 → Sg → Prop} (q : INV V σ0) (h9ret : ∀ (r : Int32) (σ' : Sg), INV V σ' → Qk r σ') : K_X12_field l V σ0 Qk := by
  refine k_X12_field q.2.1 q.2.2.1 q.2.2.2.1 (fun r σ' p0 p1 p2 p3 => h9ret r σ' ?_)
  refine INV_m p1 (by decide) q ?_
  obtain ⟨-, q1, q2, q3, q4, q5, q6, q7⟩ := q
  exact ⟨p0, p2, p3, PL_fr q4 p1 (by decide) (by decide), PLI_fr q5 p1 (by decide) (by decide), by rw [p1.2.1 1 (by decide)]; exact q6, by rw [p1.2.1 52 (by decide)]; exact q7⟩
set_option maxHeartbeats 4000000 in
theorem L_X12_told {l : Launch} {V : Vx} {a1 : Int32} {σ0 : Sg} {Qk : Int32 → Sg → Prop} (q : INV V σ0) (h9ret : ∀ (r : Int32) (σ' : Sg), INV V σ' → Qk r σ') : K_X12_told l V a1 σ0 Qk := by
  refine k_X12_told q.2.1 (fun r σ' p0 p1 => h9ret r σ' ?_)
  refine INV_m p1 (by decide) q ?_
  obtain ⟨-, q1, q2, q3, q4, q5, q6, q7⟩ := q
  exact ⟨p0, by rw [p1.2.1 12 (by decide), p1.2.1 11 (by decide)]; exact q2, by rw [p1.2.1 50 (by decide), p1.2.1 11 (by decide)]; exact q3, PL_fr q4 p1 (by decide) (by decide), PLI_fr q5 p1 (by decide) (by decide), by rw [p1.2.1 1 (by decide)]; exact q6, by rw [p1.2.1 52 (by decide)]; exact q7⟩
set_option maxHeartbeats 4000000 in
theorem L_X12_minute {l : Launch} {V : Vx} {σ0 : Sg} {Qk : Int32 → Sg → Prop} (q : INV V σ0) (h9ret : ∀ (r : Int32) (σ' : Sg), INV V σ' → Qk r σ') : K_X12_minute l V σ0 Qk := by
  refine k_X12_minute q.2.1 q.2.2.2.2.2.2.1 (fun r σ' p0 p1 p2 => h9ret r σ' ?_)
  refine INV_m p1 (by decide) q ?_
  obtain ⟨-, q1, q2, q3, q4, q5, q6, q7⟩ := q
  exact ⟨p0, by rw [p1.2.1 12 (by decide), p1.2.1 11 (by decide)]; exact q2, by rw [p1.2.1 50 (by decide), p1.2.1 11 (by decide)]; exact q3, PL_fr q4 p1 (by decide) (by decide), PLI_fr q5 p1 (by decide) (by decide), p2, by rw [p1.2.1 52 (by decide)]; exact q7⟩
set_option maxHeartbeats 4000000 in
theorem L_X12_whet {l : Launch} {V : Vx} {σ0 : Sg} {Qk : Int32 → Sg → Prop} (q : INV V σ0) (h9ret : ∀ (r : Int32) (σ' : Sg), INV V σ' → Qk r σ') : K_X12_whet l V σ0 Qk := by
  refine k_X12_whet q.2.1 q.2.2.2.2.2.2.1 (fun r σ' p0 p1 p2 => h9ret r σ' ?_)
  refine INV_m p1 (by decide) q ?_
  obtain ⟨-, q1, q2, q3, q4, q5, q6, q7⟩ := q
  exact ⟨p0, by rw [p1.2.1 12 (by decide), p1.2.1 11 (by decide)]; exact q2, by rw [p1.2.1 50 (by decide), p1.2.1 11 (by decide)]; exact q3, PL_fr q4 p1 (by decide) (by decide), PLI_fr q5 p1 (by decide) (by decide), p2, by rw [p1.2.1 52 (by decide)]; exact q7⟩
set_option maxHeartbeats 4000000 in
theorem L_X12_pause {l : Launch} {V : Vx} {a1 : Int32} {σ0 : Sg} {Qk : Int32 → Sg → Prop} (q : INV V σ0) (h9ret : ∀ (r : Int32) (σ' : Sg), INV V σ' → Qk r σ') : K_X12_pause l V a1 σ0 Qk := by
  refine k_X12_pause q.2.1 q.2.2.2.2.2.2.1 (fun r σ' p0 p1 p2 => h9ret r σ' ?_)
  refine INV_m p1 (by decide) q ?_
  obtain ⟨-, q1, q2, q3, q4, q5, q6, q7⟩ := q
  exact ⟨p0, by rw [p1.2.1 12 (by decide), p1.2.1 11 (by decide)]; exact q2, by rw [p1.2.1 50 (by decide), p1.2.1 11 (by decide)]; exact q3, PL_fr q4 p1 (by decide) (by decide), PLI_fr q5 p1 (by decide) (by decide), p2, by rw [p1.2.1 52 (by decide)]; exact q7⟩
set_option maxHeartbeats 4000000 in
theorem L_X12_on {l : Launch} {V : Vx} {a1 : Int32} {a2 : Int32} {σ0 : Sg} {Qk : Int32 → Sg → Prop} (q : INV V σ0) (h9ret : ∀ (r : Int32) (σ' : Sg), INV V σ' → Qk r σ') : K_X12_on l V a1 a2 σ0 Qk := by
  refine k_X12_on q.2.1 q.2.2.2.2.2.2.1 (fun r σ' p0 p1 p2 => h9ret r σ' ?_)
  refine INV_m p1 (by decide) q ?_
  obtain ⟨-, q1, q2, q3, q4, q5, q6, q7⟩ := q
  exact ⟨p0, by rw [p1.2.1 12 (by decide), p1.2.1 11 (by decide)]; exact q2, by rw [p1.2.1 50 (by decide), p1.2.1 11 (by decide)]; exact q3, PL_fr q4 p1 (by decide) (by decide), PLI_fr q5 p1 (by decide) (by decide), by rw [p2]; exact q6, by rw [p1.2.1 52 (by decide)]; exact q7⟩
set_option maxHeartbeats 4000000 in
theorem L_X12_done {l : Launch} {V : Vx} {σ0 : Sg} {Qk : Int32 → Sg → Prop} (q : INV V σ0) (h9ret : ∀ (r : Int32) (σ' : Sg), INV V σ' → Qk r σ') : K_X12_done l V σ0 Qk := by
  refine k_X12_done q.2.1 q.2.2.2.2.2.2.1 (fun r σ' p0 p1 p2 => h9ret r σ' ?_)
  refine INV_m p1 (by decide) q ?_
  obtain ⟨-, q1, q2, q3, q4, q5, q6, q7⟩ := q
  exact ⟨p0, by rw [p1.2.1 12 (by decide), p1.2.1 11 (by decide)]; exact q2, by rw [p1.2.1 50 (by decide), p1.2.1 11 (by decide)]; exact q3, PL_fr q4 p1 (by decide) (by decide), PLI_fr q5 p1 (by decide) (by decide), by rw [p2]; exact q6, by rw [p1.2.1 52 (by decide)]; exact q7⟩
set_option maxHeartbeats 4000000 in
theorem L_X12_order {l : Launch} {V : Vx} {a1 : Int32} {a2 : Int32} {σ0 : Sg} {Qk : Int32 → Sg → Prop} (q : INV V σ0) (h9ret : ∀ (r : Int32) (σ' : Sg), INV V σ' → Qk r σ') : K_X12_order l V a1 a2 σ0 Qk := by
  refine k_X12_order q.2.1 q.2.2.2.2.2.2.1 (fun r σ' p0 p1 p2 p3 => h9ret r σ' ?_)
  refine INV_m p1 (by decide) q ?_
  obtain ⟨-, q1, q2, q3, q4, q5, q6, q7⟩ := q
  exact ⟨p0, by rw [p1.2.1 12 (by decide), p1.2.1 11 (by decide)]; exact q2, by rw [p1.2.1 50 (by decide), p1.2.1 11 (by decide)]; exact q3, PL_cd q1 q4 p3 (by rw [p1.2.1 0 (by decide)]), PLI_fr q5 p1 (by decide) (by decide), by rw [p2]; exact q6, by rw [p1.2.1 52 (by decide)]; exact q7⟩
set_option maxHeartbeats 4000000 in
theorem L_X12_whets {l : Launch} {V : Vx} {a1 : Int32} {a2 : Int32} {σ0 : Sg} {Qk : Int32 → Sg → Prop} (q : INV V σ0) (h9ret : ∀ (r : Int32) (σ' : Sg), INV V σ' → Qk r σ') : K_X12_whets l V a1 a2 σ0 Qk := by
  refine k_X12_whets q.2.1 q.2.2.2.2.2.2.1 (fun r σ' p0 p1 p2 => h9ret r σ' ?_)
  refine INV_m p1 (by decide) q ?_
  obtain ⟨-, q1, q2, q3, q4, q5, q6, q7⟩ := q
  exact ⟨p0, by rw [p1.2.1 12 (by decide), p1.2.1 11 (by decide)]; exact q2, by rw [p1.2.1 50 (by decide), p1.2.1 11 (by decide)]; exact q3, PL_fr q4 p1 (by decide) (by decide), PLI_fr q5 p1 (by decide) (by decide), by rw [p2]; exact q6, by rw [p1.2.1 52 (by decide)]; exact q7⟩
set_option maxHeartbeats 4000000 in
theorem L_X12_apart {l : Launch} {V : Vx} {a1 : Int32} {a2 : Int32} {σ0 : Sg} {Qk : Int32 → Sg → Prop} (q : INV V σ0) (h9ret : ∀ (r : Int32) (σ' : Sg), INV V σ' → Qk r σ') : K_X12_apart l V a1 a2 σ0 Qk := by
  refine k_X12_apart q.2.1 q.2.2.2.2.2.2.1 (fun r σ' p0 p1 p2 => h9ret r σ' ?_)
  refine INV_m p1 (by decide) q ?_
  obtain ⟨-, q1, q2, q3, q4, q5, q6, q7⟩ := q
  exact ⟨p0, by rw [p1.2.1 12 (by decide), p1.2.1 11 (by decide)]; exact q2, by rw [p1.2.1 50 (by decide), p1.2.1 11 (by decide)]; exact q3, PL_fr q4 p1 (by decide) (by decide), PLI_fr q5 p1 (by decide) (by decide), by rw [p2]; exact q6, by rw [p1.2.1 52 (by decide)]; exact q7⟩
set_option maxHeartbeats 4000000 in
theorem L_X12_stop {l : Launch} {V : Vx} {a1 : Int32} {a2 : Int32} {a3 : Int32} {a4 : Int32} {σ0 : Sg} {Qk : Int32 → Sg → Prop} (q : INV V σ0) (h9ret : ∀ (r : Int32) (σ' : Sg), INV V σ' → Qk r σ') : K_X12_stop l V a1 a2 a3 a4 σ0 Qk := by
  refine k_X12_stop q.2.1 q.2.2.2.2.2.2.1 (fun r σ' p0 p1 p2 => h9ret r σ' ?_)
  refine INV_m p1 (by decide) q ?_
  obtain ⟨-, q1, q2, q3, q4, q5, q6, q7⟩ := q
  exact ⟨p0, by rw [p1.2.1 12 (by decide), p1.2.1 11 (by decide)]; exact q2, by rw [p1.2.1 50 (by decide), p1.2.1 11 (by decide)]; exact q3, PL_fr q4 p1 (by decide) (by decide), PLI_fr q5 p1 (by decide) (by decide), by rw [p2]; exact q6, by rw [p1.2.1 52 (by decide)]; exact q7⟩
set_option maxHeartbeats 4000000 in
theorem L_X12_alone {l : Launch} {V : Vx} {a1 : Int32} {σ0 : Sg} {Qk : Int32 → Sg → Prop} (q : INV V σ0) (h9ret : ∀ (r : Int32) (σ' : Sg), INV V σ' → Qk r σ') : K_X12_alone l V a1 σ0 Qk := by
  refine kl_X12_alone q.2.1 q.2.2.2.2.2.2.1 (fun r σ' p0 p1 p2 p3 => h9ret r σ' ?_)
  refine INV_m p1 (by decide) q ?_
  obtain ⟨-, q1, q2, q3, q4, q5, q6, q7⟩ := q
  exact ⟨p0, by rw [p1.2.1 12 (by decide), p1.2.1 11 (by decide)]; exact q2, by rw [p1.2.1 50 (by decide), p1.2.1 11 (by decide)]; exact q3, PL_cd q1 q4 p3 (by rw [p1.2.1 0 (by decide)]), PLI_fr q5 p1 (by decide) (by decide), by rw [p2]; exact q6, by rw [p1.2.1 52 (by decide)]; exact q7⟩
set_option maxHeartbeats 4000000 in
theorem L_X12_rest {l : Launch} {V : Vx} {a1 : Int32} {a2 : Int32} {σ0 : Sg} {Qk : Int32 → Sg → Prop} (q : INV V σ0) (h9ret : ∀ (r : Int32) (σ' : Sg), INV V σ' → Qk r σ') : K_X12_rest l V a1 a2 σ0 Qk := by
  refine k_X12_rest q.2.1 q.2.2.2.2.2.2.1 (fun r σ' p0 p1 p2 => h9ret r σ' ?_)
  refine INV_m p1 (by decide) q ?_
  obtain ⟨-, q1, q2, q3, q4, q5, q6, q7⟩ := q
  exact ⟨p0, by rw [p1.2.1 12 (by decide), p1.2.1 11 (by decide)]; exact q2, by rw [p1.2.1 50 (by decide), p1.2.1 11 (by decide)]; exact q3, PL_fr q4 p1 (by decide) (by decide), PLI_fr q5 p1 (by decide) (by decide), by rw [p2]; exact q6, by rw [p1.2.1 52 (by decide)]; exact q7⟩
set_option maxHeartbeats 4000000 in
theorem L_X12_paused {l : Launch} {V : Vx} {a1 : Int32} {a2 : Int32} {σ0 : Sg} {Qk : Int32 → Sg → Prop} (q : INV V σ0) (h9ret : ∀ (r : Int32) (σ' : Sg), INV V σ' → Qk r σ') : K_X12_paused l V a1 a2 σ0 Qk := by
  refine k_X12_paused q.2.1 q.2.2.2.2.2.2.1 (fun r σ' p0 p1 p2 => h9ret r σ' ?_)
  refine INV_m p1 (by decide) q ?_
  obtain ⟨-, q1, q2, q3, q4, q5, q6, q7⟩ := q
  exact ⟨p0, by rw [p1.2.1 12 (by decide), p1.2.1 11 (by decide)]; exact q2, by rw [p1.2.1 50 (by decide), p1.2.1 11 (by decide)]; exact q3, PL_fr q4 p1 (by decide) (by decide), PLI_fr q5 p1 (by decide) (by decide), by rw [p2]; exact q6, by rw [p1.2.1 52 (by decide)]; exact q7⟩
set_option maxHeartbeats 4000000 in
theorem L_X12_see {l : Launch} {V : Vx} {a1 : Int32} {a2 : Int32} {a3 : Int32} {σ0 : Sg} {Qk : Int32 → Sg → Prop} (q : INV V σ0) (h9ret : ∀ (r : Int32) (σ' : Sg), INV V σ' → Qk r σ') : K_X12_see l V a1 a2 a3 σ0 Qk := by
  refine k_X12_see q.2.1 (fun r σ' p0 p1 => h9ret r σ' ?_)
  refine INV_m p1 (by decide) q ?_
  obtain ⟨-, q1, q2, q3, q4, q5, q6, q7⟩ := q
  exact ⟨p0, by rw [p1.2.1 12 (by decide), p1.2.1 11 (by decide)]; exact q2, by rw [p1.2.1 50 (by decide), p1.2.1 11 (by decide)]; exact q3, PL_fr q4 p1 (by decide) (by decide), PLI_fr q5 p1 (by decide) (by decide), by rw [p1.2.1 1 (by decide)]; exact q6, by rw [p1.2.1 52 (by decide)]; exact q7⟩
set_option maxHeartbeats 4000000 in
theorem L_X12_who {l : Launch} {V : Vx} {σ0 : Sg} {Qk : Int32 → Sg → Prop} (q : INV V σ0) (h9ret : ∀ (r : Int32) (σ' : Sg), INV V σ' → Qk r σ') : K_X12_who l V σ0 Qk := by
  refine k_X12_who q.2.1 q.2.2.2.2.2.2.1 (fun r σ' p0 p1 p2 => h9ret r σ' ?_)
  refine INV_m p1 (by decide) q ?_
  obtain ⟨-, q1, q2, q3, q4, q5, q6, q7⟩ := q
  exact ⟨p0, by rw [p1.2.1 12 (by decide), p1.2.1 11 (by decide)]; exact q2, by rw [p1.2.1 50 (by decide), p1.2.1 11 (by decide)]; exact q3, PL_fr q4 p1 (by decide) (by decide), PLI_fr q5 p1 (by decide) (by decide), by rw [p2]; exact q6, by rw [p1.2.1 52 (by decide)]; exact q7⟩
set_option maxHeartbeats 4000000 in
theorem L_X12_odds {l : Launch} {V : Vx} {a1 : Int32} {a2 : Int32} {a3 : Int32} {σ0 : Sg} {Qk : Int64 → Sg → Prop} (q : INV V σ0) (h9ret : ∀ (r : Int64) (σ' : Sg), INV V σ' → Qk r σ') : K_X12_odds l V a1 a2 a3 σ0 Qk := by
  refine k_X12_odds q.2.1 q.2.2.2.2.2.2.1 (fun r σ' p0 p1 p2 => h9ret r σ' ?_)
  refine INV_m p1 (by decide) q ?_
  obtain ⟨-, q1, q2, q3, q4, q5, q6, q7⟩ := q
  exact ⟨p0, by rw [p1.2.1 12 (by decide), p1.2.1 11 (by decide)]; exact q2, by rw [p1.2.1 50 (by decide), p1.2.1 11 (by decide)]; exact q3, PL_fr q4 p1 (by decide) (by decide), PLI_fr q5 p1 (by decide) (by decide), by rw [p2]; exact q6, by rw [p1.2.1 52 (by decide)]; exact q7⟩
set_option maxHeartbeats 4000000 in
theorem L_X12_mean {l : Launch} {V : Vx} {a1 : Int32} {a2 : Int32} {σ0 : Sg} {Qk : Int64 → Sg → Prop} (q : INV V σ0) (h9ret : ∀ (r : Int64) (σ' : Sg), INV V σ' → Qk r σ') : K_X12_mean l V a1 a2 σ0 Qk := by
  refine k_X12_mean q.2.1 q.2.2.2.2.2.2.1 (fun r σ' p0 p1 p2 => h9ret r σ' ?_)
  refine INV_m p1 (by decide) q ?_
  obtain ⟨-, q1, q2, q3, q4, q5, q6, q7⟩ := q
  exact ⟨p0, by rw [p1.2.1 12 (by decide), p1.2.1 11 (by decide)]; exact q2, by rw [p1.2.1 50 (by decide), p1.2.1 11 (by decide)]; exact q3, PL_fr q4 p1 (by decide) (by decide), PLI_fr q5 p1 (by decide) (by decide), by rw [p2]; exact q6, by rw [p1.2.1 52 (by decide)]; exact q7⟩
set_option maxHeartbeats 4000000 in
theorem L_X12_plan {l : Launch} {V : Vx} {a1 : Int32} {σ0 : Sg} {Qk : Int32 → Sg → Prop} (q : INV V σ0) (h9ret : ∀ (r : Int32) (σ' : Sg), INV V σ' → Qk r σ') : K_X12_plan l V a1 σ0 Qk := by
  refine k_X12_plan q.2.1 (fun r σ' p0 p1 => h9ret r σ' ?_)
  refine INV_m p1 (by decide) q ?_
  obtain ⟨-, q1, q2, q3, q4, q5, q6, q7⟩ := q
  exact ⟨p0, by rw [p1.2.1 12 (by decide), p1.2.1 11 (by decide)]; exact q2, by rw [p1.2.1 50 (by decide), p1.2.1 11 (by decide)]; exact q3, PL_fr q4 p1 (by decide) (by decide), PLI_fr q5 p1 (by decide) (by decide), by rw [p1.2.1 1 (by decide)]; exact q6, by rw [p1.2.1 52 (by decide)]; exact q7⟩
set_option maxHeartbeats 4000000 in
theorem L_X12_planned {l : Launch} {V : Vx} {σ0 : Sg} {Qk : Int32 → Sg → Prop} (q : INV V σ0) (h9ret : ∀ (r : Int32) (σ' : Sg), INV V σ' → Qk r σ') : K_X12_planned l V σ0 Qk := by
  refine k_X12_planned q.2.1 q.2.2.2.2.2.2.1 (fun r σ' p0 p1 p2 => h9ret r σ' ?_)
  refine INV_m p1 (by decide) q ?_
  obtain ⟨-, q1, q2, q3, q4, q5, q6, q7⟩ := q
  exact ⟨p0, by rw [p1.2.1 12 (by decide), p1.2.1 11 (by decide)]; exact q2, by rw [p1.2.1 50 (by decide), p1.2.1 11 (by decide)]; exact q3, PL_fr q4 p1 (by decide) (by decide), PLI_fr q5 p1 (by decide) (by decide), by rw [p2]; exact q6, by rw [p1.2.1 52 (by decide)]; exact q7⟩
set_option maxHeartbeats 4000000 in
theorem L_X12_book {l : Launch} {V : Vx} {a1 : Int32} {σ0 : Sg} {Qk : Int32 → Sg → Prop} (q : INV V σ0) (h9ret : ∀ (r : Int32) (σ' : Sg), INV V σ' → Qk r σ') : K_X12_book l V a1 σ0 Qk := by
  refine k_X12_book q.2.1 (fun r σ' p0 p1 => h9ret r σ' ?_)
  refine INV_m p1 (by decide) q ?_
  obtain ⟨-, q1, q2, q3, q4, q5, q6, q7⟩ := q
  exact ⟨p0, by rw [p1.2.1 12 (by decide), p1.2.1 11 (by decide)]; exact q2, by rw [p1.2.1 50 (by decide), p1.2.1 11 (by decide)]; exact q3, PL_fr q4 p1 (by decide) (by decide), PLI_fr q5 p1 (by decide) (by decide), by rw [p1.2.1 1 (by decide)]; exact q6, by rw [p1.2.1 52 (by decide)]; exact q7⟩
set_option maxHeartbeats 4000000 in
theorem L_X12_looked {l : Launch} {V : Vx} {σ0 : Sg} {Qk : Int32 → Sg → Prop} (q : INV V σ0) (h9ret : ∀ (r : Int32) (σ' : Sg), INV V σ' → Qk r σ') : K_X12_looked l V σ0 Qk := by
  refine k_X12_looked q.2.1 q.2.2.2.2.2.2.1 (fun r σ' p0 p1 p2 => h9ret r σ' ?_)
  refine INV_m p1 (by decide) q ?_
  obtain ⟨-, q1, q2, q3, q4, q5, q6, q7⟩ := q
  exact ⟨p0, by rw [p1.2.1 12 (by decide), p1.2.1 11 (by decide)]; exact q2, by rw [p1.2.1 50 (by decide), p1.2.1 11 (by decide)]; exact q3, PL_fr q4 p1 (by decide) (by decide), PLI_fr q5 p1 (by decide) (by decide), by rw [p2]; exact q6, by rw [p1.2.1 52 (by decide)]; exact q7⟩
set_option maxHeartbeats 4000000 in
theorem L_X12_judge {l : Launch} {V : Vx} {a1 : Int32} {a2 : Int32} {σ0 : Sg} {Qk : Int32 → Sg → Prop} (q : INV V σ0) (h9ret : ∀ (r : Int32) (σ' : Sg), INV V σ' → Qk r σ') : K_X12_judge l V a1 a2 σ0 Qk := by
  refine k_X12_judge q.2.1 (fun r σ' p0 p1 => h9ret r σ' ?_)
  refine INV_m p1 (by decide) q ?_
  obtain ⟨-, q1, q2, q3, q4, q5, q6, q7⟩ := q
  exact ⟨p0, by rw [p1.2.1 12 (by decide), p1.2.1 11 (by decide)]; exact q2, by rw [p1.2.1 50 (by decide), p1.2.1 11 (by decide)]; exact q3, PL_fr q4 p1 (by decide) (by decide), PLI_fr q5 p1 (by decide) (by decide), by rw [p1.2.1 1 (by decide)]; exact q6, by rw [p1.2.1 52 (by decide)]; exact q7⟩
set_option maxHeartbeats 4000000 in
theorem L_X12_image {l : Launch} {V : Vx} {σ0 : Sg} {Qk : Int32 → Sg → Prop} (q : INV V σ0) (h9ret : ∀ (r : Int32) (σ' : Sg), INV V σ' → Qk r σ') : K_X12_image l V σ0 Qk := by
  refine kl_X12_image q.2.1 q.2.2.2.2.1 (fun r σ' p0 p1 p2 p3 p4 p5 => h9ret r σ' ?_)
  refine INV_m p1 (by decide) q ?_
  obtain ⟨-, q1, q2, q3, q4, q5, q6, q7⟩ := q
  exact ⟨p0, by rw [p1.2.1 12 (by decide), p1.2.1 11 (by decide)]; exact q2, by rw [p4, p1.2.1 11 (by decide)]; exact q2, PL_fr q4 p1 (by decide) (by decide), p5, by rw [p1.2.1 1 (by decide)]; exact q6, by rw [p3]; exact q6⟩
set_option maxHeartbeats 4000000 in
theorem L_X12_undo {l : Launch} {V : Vx} {σ0 : Sg} {Qk : Int32 → Sg → Prop} (q : INV V σ0) (h9ret : ∀ (r : Int32) (σ' : Sg), INV V σ' → Qk r σ') : K_X12_undo l V σ0 Qk := by
  refine kl_X12_undo q.2.1 q.2.2.2.2.1 q.2.2.2.2.2.1 q.2.2.2.2.2.2.1 q.2.2.2.2.2.2.2 q.2.2.1 q.2.2.2.1 (fun r σ' p0 p1 p2 p3 p4 => h9ret r σ' ?_)
  refine INV_m p1 (by decide) q ?_
  obtain ⟨-, q1, q2, q3, q4, q5, q6, q7⟩ := q
  exact ⟨p0, p4, by rw [p1.2.1 50 (by decide), p1.2.1 11 (by decide)]; exact q3, p2, PLI_fr q5 p1 (by decide) (by decide), p3, by rw [p1.2.1 52 (by decide)]; exact q7⟩
set_option maxHeartbeats 4000000 in
theorem L_X12_act {l : Launch} {V : Vx} {a1 : Int32} {a2 : Int32} {a3 : Int32} {σ0 : Sg} {Qk : Int32 → Sg → Prop} (q : INV V σ0) (h9ret : ∀ (r : Int32) (σ' : Sg), INV V σ' → Qk r σ') : K_X12_act l V a1 a2 a3 σ0 Qk := by
  refine k_X12_act q.2.1 (fun r σ' p0 p1 => h9ret r σ' ?_)
  refine INV_m p1 (by decide) q ?_
  obtain ⟨-, q1, q2, q3, q4, q5, q6, q7⟩ := q
  exact ⟨p0, by rw [p1.2.1 12 (by decide), p1.2.1 11 (by decide)]; exact q2, by rw [p1.2.1 50 (by decide), p1.2.1 11 (by decide)]; exact q3, PL_fr q4 p1 (by decide) (by decide), PLI_fr q5 p1 (by decide) (by decide), by rw [p1.2.1 1 (by decide)]; exact q6, by rw [p1.2.1 52 (by decide)]; exact q7⟩
set_option maxHeartbeats 4000000 in
theorem L_X12_trace {l : Launch} {V : Vx} {a1 : Int32} {σ0 : Sg} {Qk : Int32 → Sg → Prop} (q : INV V σ0) (h9ret : ∀ (r : Int32) (σ' : Sg), INV V σ' → Qk r σ') : K_X12_trace l V a1 σ0 Qk := by
  refine k_X12_trace q.2.1 (fun r σ' p0 p1 => h9ret r σ' ?_)
  refine INV_m p1 (by decide) q ?_
  obtain ⟨-, q1, q2, q3, q4, q5, q6, q7⟩ := q
  exact ⟨p0, by rw [p1.2.1 12 (by decide), p1.2.1 11 (by decide)]; exact q2, by rw [p1.2.1 50 (by decide), p1.2.1 11 (by decide)]; exact q3, PL_fr q4 p1 (by decide) (by decide), PLI_fr q5 p1 (by decide) (by decide), by rw [p1.2.1 1 (by decide)]; exact q6, by rw [p1.2.1 52 (by decide)]; exact q7⟩
set_option maxHeartbeats 4000000 in
theorem L_X12_taken {l : Launch} {V : Vx} {a1 : Int32} {a2 : Int32} {σ0 : Sg} {Qk : Int32 → Sg → Prop} (q : INV V σ0) (h9ret : ∀ (r : Int32) (σ' : Sg), INV V σ' → Qk r σ') : K_X12_taken l V a1 a2 σ0 Qk := by
  refine k_X12_taken q.2.1 (fun r σ' p0 p1 => h9ret r σ' ?_)
  refine INV_m p1 (by decide) q ?_
  obtain ⟨-, q1, q2, q3, q4, q5, q6, q7⟩ := q
  exact ⟨p0, by rw [p1.2.1 12 (by decide), p1.2.1 11 (by decide)]; exact q2, by rw [p1.2.1 50 (by decide), p1.2.1 11 (by decide)]; exact q3, PL_fr q4 p1 (by decide) (by decide), PLI_fr q5 p1 (by decide) (by decide), by rw [p1.2.1 1 (by decide)]; exact q6, by rw [p1.2.1 52 (by decide)]; exact q7⟩
set_option maxHeartbeats 4000000 in
theorem L_X12_count {l : Launch} {V : Vx} {a1 : Int32} {σ0 : Sg} {Qk : Int32 → Sg → Prop} (q : INV V σ0) (h9ret : ∀ (r : Int32) (σ' : Sg), INV V σ' → Qk r σ') : K_X12_count l V a1 σ0 Qk := by
  refine k_X12_count q.2.1 (fun r σ' p0 p1 => h9ret r σ' ?_)
  refine INV_m p1 (by decide) q ?_
  obtain ⟨-, q1, q2, q3, q4, q5, q6, q7⟩ := q
  exact ⟨p0, by rw [p1.2.1 12 (by decide), p1.2.1 11 (by decide)]; exact q2, by rw [p1.2.1 50 (by decide), p1.2.1 11 (by decide)]; exact q3, PL_fr q4 p1 (by decide) (by decide), PLI_fr q5 p1 (by decide) (by decide), by rw [p1.2.1 1 (by decide)]; exact q6, by rw [p1.2.1 52 (by decide)]; exact q7⟩
set_option maxHeartbeats 4000000 in
theorem L_X12_tape {l : Launch} {V : Vx} {a1 : Int32} {a2 : Int32} {a3 : Int32} {σ0 : Sg} {Qk : Int32 → Sg → Prop} (q : INV V σ0) (h9ret : ∀ (r : Int32) (σ' : Sg), INV V σ' → Qk r σ') : K_X12_tape l V a1 a2 a3 σ0 Qk := by
  refine k_X12_tape q.2.1 (fun r σ' p0 p1 => h9ret r σ' ?_)
  refine INV_m p1 (by decide) q ?_
  obtain ⟨-, q1, q2, q3, q4, q5, q6, q7⟩ := q
  exact ⟨p0, by rw [p1.2.1 12 (by decide), p1.2.1 11 (by decide)]; exact q2, by rw [p1.2.1 50 (by decide), p1.2.1 11 (by decide)]; exact q3, PL_fr q4 p1 (by decide) (by decide), PLI_fr q5 p1 (by decide) (by decide), by rw [p1.2.1 1 (by decide)]; exact q6, by rw [p1.2.1 52 (by decide)]; exact q7⟩
set_option maxHeartbeats 4000000 in
theorem L_X12_item {l : Launch} {V : Vx} {a1 : Int32} {a2 : Int32} {a3 : Int64} {σ0 : Sg} {Qk : Int32 → Sg → Prop} (q : INV V σ0) (h9ret : ∀ (r : Int32) (σ' : Sg), INV V σ' → Qk r σ') : K_X12_item l V a1 a2 a3 σ0 Qk := by
  refine k_X12_item q.2.1 (fun r σ' p0 p1 => h9ret r σ' ?_)
  refine INV_m p1 (by decide) q ?_
  obtain ⟨-, q1, q2, q3, q4, q5, q6, q7⟩ := q
  exact ⟨p0, by rw [p1.2.1 12 (by decide), p1.2.1 11 (by decide)]; exact q2, by rw [p1.2.1 50 (by decide), p1.2.1 11 (by decide)]; exact q3, PL_fr q4 p1 (by decide) (by decide), PLI_fr q5 p1 (by decide) (by decide), by rw [p1.2.1 1 (by decide)]; exact q6, by rw [p1.2.1 52 (by decide)]; exact q7⟩
set_option maxHeartbeats 4000000 in
theorem L_X12_read {l : Launch} {V : Vx} {a1 : Int32} {a2 : Int32} {σ0 : Sg} {Qk : Int64 → Sg → Prop} (q : INV V σ0) (h9ret : ∀ (r : Int64) (σ' : Sg), INV V σ' → Qk r σ') : K_X12_read l V a1 a2 σ0 Qk := by
  refine k_X12_read q.2.1 (fun r σ' p0 p1 => h9ret r σ' ?_)
  refine INV_m p1 (by decide) q ?_
  obtain ⟨-, q1, q2, q3, q4, q5, q6, q7⟩ := q
  exact ⟨p0, by rw [p1.2.1 12 (by decide), p1.2.1 11 (by decide)]; exact q2, by rw [p1.2.1 50 (by decide), p1.2.1 11 (by decide)]; exact q3, PL_fr q4 p1 (by decide) (by decide), PLI_fr q5 p1 (by decide) (by decide), by rw [p1.2.1 1 (by decide)]; exact q6, by rw [p1.2.1 52 (by decide)]; exact q7⟩
set_option maxHeartbeats 4000000 in
theorem L_X12_shift {l : Launch} {V : Vx} {a1 : Int32} {a2 : Int32} {a3 : Int32} {a4 : Int32} {a5 : Int32} {σ0 : Sg} {Qk : Int32 → Sg → Prop} (q : INV V σ0) (h9ret : ∀ (r : Int32) (σ' : Sg), INV V σ' → Qk r σ') : K_X12_shift l V a1 a2 a3 a4 a5 σ0 Qk := by
  refine k_X12_shift q.2.1 (fun r σ' p0 p1 => h9ret r σ' ?_)
  refine INV_m p1 (by decide) q ?_
  obtain ⟨-, q1, q2, q3, q4, q5, q6, q7⟩ := q
  exact ⟨p0, by rw [p1.2.1 12 (by decide), p1.2.1 11 (by decide)]; exact q2, by rw [p1.2.1 50 (by decide), p1.2.1 11 (by decide)]; exact q3, PL_fr q4 p1 (by decide) (by decide), PLI_fr q5 p1 (by decide) (by decide), by rw [p1.2.1 1 (by decide)]; exact q6, by rw [p1.2.1 52 (by decide)]; exact q7⟩
