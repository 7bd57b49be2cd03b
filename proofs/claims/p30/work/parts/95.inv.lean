/-! what holds between two rounds -/
noncomputable def IVX (V : Vx) (σ : Sg) : Prop := XI V σ ∧ NN σ 1 ∧ NN σ 17 ∧ (gi σ 1 3).toInt = (gi σ 1 1).toInt ∧ (gi σ 17 3).toInt = (gi σ 17 1).toInt ∧ (gi σ 1 9).toInt ≤ 9999 ∧ (gi σ 17 9).toInt ≤ 9999 ∧ (gi σ 9 1).toInt % 3 = 0 ∧ (gi σ 25 1).toInt % 3 = 0 ∧ FI V σ
noncomputable def IVM (σ : Sg) : Prop := MI σ ∧ (gi σ 74 12).toInt < (gi σ 74 11).toInt ∧ (gi σ 74 50).toInt < (gi σ 74 11).toInt ∧ PL σ ∧ PLI σ ∧ (gi σ 74 1).toInt ≤ 9999 ∧ (gi σ 74 52).toInt ≤ 9999
noncomputable def INV (V : Vx) (σ : Sg) : Prop := IVX V σ ∧ IVM σ
/-- the model's cells are left alone -/
noncomputable def MA (σ σ' : Sg) : Prop := ∀ id, 74 ≤ id → id < 1000 → ∀ k, gi σ' id k = gi σ id k
/-- the class's cells are left alone -/
noncomputable def XA (σ σ' : Sg) : Prop := (∀ id, (id < 74 ∨ 1000 ≤ id) → ∀ k, gi σ' id k = gi σ id k) ∧ ∀ id k, gr σ' id k = gr σ id k
theorem MA_fx {S : Nat → Prop} {F : Nat → Nat → Prop} {σ σ' : Sg} (f : FX S F σ σ') (h1 : ∀ id, S id → id < 74 ∨ 1000 ≤ id) (h2 : ∀ id k, F id k → id < 74 ∨ 1000 ≤ id) : MA σ σ' := fun id a b k =>
  FX_i f (fun z => by have := h1 id z; omega) (fun z => by have := h2 id k z; omega)
theorem XA_fr {S F : List Nat} {σ σ' : Sg} (f : Fr S F σ σ') (h : ∀ id ∈ S, 74 ≤ id ∧ id < 1000) : XA σ σ' :=
  ⟨fun id a k => congrFun (f.1 id (fun z => by have := h id z; omega)).1 k, fun id k => by unfold gr; rw [f.2.2]⟩
theorem PL_ag {σ σ' : Sg} (h : MA σ σ') (q : PL σ) : PL σ' := fun m hm => by
  rw [h 74 (by decide +kernel) (by decide +kernel)] at hm
  obtain ⟨k, hk, e⟩ := q m hm
  exact ⟨k, by rw [h 74 (by decide +kernel) (by decide +kernel)]; exact hk, (h 110 (by decide +kernel) (by decide +kernel) k).trans e⟩
theorem PLI_ag {σ σ' : Sg} (h : MA σ σ') (q : PLI σ) : PLI σ' := fun m hm => by
  rw [h 74 (by decide +kernel) (by decide +kernel)] at hm
  obtain ⟨k, hk, e⟩ := q m hm
  exact ⟨k, by rw [h 74 (by decide +kernel) (by decide +kernel)]; exact hk, (h 162 (by decide +kernel) (by decide +kernel) k).trans e⟩
theorem bnd_ag {σ σ' : Sg} (h : MA σ σ') {a n : Nat} {lo hi : Int} (h1 : 74 ≤ a) (h2 : a < 1000) (q : bnd (σ.1 a) n lo hi) : bnd (σ'.1 a) n lo hi := fun j hj => by
  have e : σ'.1 a j = σ.1 a j := h a h1 h2 j
  rw [e]; exact q j hj
theorem MI0_ag {σ σ' : Sg} (h : MA σ σ') (q : MI0 σ) : MI0 σ' := by
  have e : ∀ k, gi σ' 74 k = gi σ 74 k := h 74 (by decide +kernel) (by decide +kernel)
  unfold MI0
  simp only [e]
  exact q
theorem MI1_ag {σ σ' : Sg} (h : MA σ σ') (q : MI1 σ) : MI1 σ' := by
  unfold MI1 at q ⊢
  obtain ⟨q1, q2, q3, q4, q5, q6, q7, q8, q9, q10, q11, q12, q13, q14, q15, q16, q17⟩ := q
  refine ⟨bnd_ag h ?_ ?_ q1, bnd_ag h ?_ ?_ q2, bnd_ag h ?_ ?_ q3, bnd_ag h ?_ ?_ q4, bnd_ag h ?_ ?_ q5, bnd_ag h ?_ ?_ q6, bnd_ag h ?_ ?_ q7, bnd_ag h ?_ ?_ q8, bnd_ag h ?_ ?_ q9, bnd_ag h ?_ ?_ q10, bnd_ag h ?_ ?_ q11, bnd_ag h ?_ ?_ q12, bnd_ag h ?_ ?_ q13, bnd_ag h ?_ ?_ q14, bnd_ag h ?_ ?_ q15, bnd_ag h ?_ ?_ q16, bnd_ag h ?_ ?_ q17⟩ <;> decide
theorem fvL_in : ∀ a ∈ fvL, 74 ≤ a ∧ a < 1000 := by decide +kernel
theorem MI_ag {σ σ' : Sg} (h : MA σ σ') (q : MI σ) : MI σ' :=
  ⟨MI0_ag h q.1, MI1_ag h q.2.1, FV_eq (fun a ha k => h a (fvL_in a ha).1 (fvL_in a ha).2 k) (h 74 (by decide +kernel) (by decide +kernel) _) (h 74 (by decide +kernel) (by decide +kernel) _) (h 74 (by decide +kernel) (by decide +kernel) _) q.2.2⟩
theorem IVM_ag {σ σ' : Sg} (h : MA σ σ') (q : IVM σ) : IVM σ' := by
  obtain ⟨q1, q2, q3, q4, q5, q6, q7⟩ := q
  have e : ∀ k, gi σ' 74 k = gi σ 74 k := h 74 (by decide +kernel) (by decide +kernel)
  refine ⟨MI_ag h q1, ?_, ?_, PL_ag h q4, PLI_ag h q5, ?_, ?_⟩
  · rw [e, e]; exact q2
  · rw [e, e]; exact q3
  · rw [e]; exact q6
  · rw [e]; exact q7
theorem fo_lo {id o : Nat} (h : fo id = some o) : id < 74 ∨ 1000 ≤ id := by
  by_cases h3 : id < 74
  · exact Or.inl h3
  · by_cases h4 : id < 1000
    · exfalso
      have h1 : ¬ id < 69 := by omega
      unfold fo at h
      rw [if_neg h1, if_neg h3, if_pos h4] at h
      cases h
    · exact Or.inr (by omega)
theorem lim_out {id k : Nat} {lo hi : Int} (h : lim id k = some (lo, hi)) : id < 74 ∨ 1000 ≤ id := by
  by_cases h1 : id < 69
  · exact Or.inl (by omega)
  · unfold lim at h
    rw [if_neg h1] at h
    cases hf : fo id with
    | some o => exact fo_lo hf
    | none =>
      rw [hf] at h
      by_cases h2 : 2000 ≤ id
      · exact Or.inr (by omega)
      · have h : (if 2000 ≤ id then (if k = 0 then some ((0 : Int), (6 : Int)) else if k = 1 then some (0, 5) else if k = 2 then some (0, 9) else none) else none) = some (lo, hi) := h
        rw [if_neg h2] at h
        cases h
theorem XI_xa {V : Vx} {σ σ' : Sg} (h : XA σ σ') (x : XI V σ) : XI V σ' := by
  obtain ⟨x1, x2, x3, x4⟩ := x
  refine ⟨fun id k lo hi hl => ?_, fun c hc => ⟨?_, fun k μ hμ => ?_⟩, fun k f hf => ?_, fun f hf => ?_⟩
  · rw [h.1 id (lim_out hl)]; exact x1 id k lo hi hl
  · rw [h.2]; exact (x2 c hc).1
  · rw [h.2] at hμ; exact (x2 c hc).2 k μ hμ
  · rw [h.2] at hf; exact x3 k f hf
  · rw [h.2]; exact x4 f hf
theorem NN_xa {σ σ' : Sg} {c : Nat} (h : XA σ σ') (hc : c < 72) (q : NN σ c) : NN σ' c := by
  refine ⟨fun p hp => ?_, fun m hm => ?_⟩
  · rw [h.1 c (by omega)] at hp ⊢
    rw [h.1 (c + 2) (by omega)]
    exact q.1 p hp
  · rw [h.1 c (by omega)] at hm
    rw [h.2]
    exact q.2 m hm
theorem IVX_xa {V : Vx} {σ σ' : Sg} (h : XA σ σ') (q : IVX V σ) : IVX V σ' := by
  obtain ⟨q1, q2, q3, q4, q5, q6, q7, q8, q9, q10⟩ := q
  refine ⟨XI_xa h q1, NN_xa h (by decide +kernel) q2, NN_xa h (by decide +kernel) q3, ?_, ?_, ?_, ?_, ?_, ?_, fun k hk hn => q10 k hk ?_⟩
  · rw [h.1 1 (by decide +kernel), h.1 1 (by decide +kernel)]; exact q4
  · rw [h.1 17 (by decide +kernel), h.1 17 (by decide +kernel)]; exact q5
  · rw [h.1 1 (by decide +kernel)]; exact q6
  · rw [h.1 17 (by decide +kernel)]; exact q7
  · rw [h.1 9 (by decide +kernel)]; exact q8
  · rw [h.1 25 (by decide +kernel)]; exact q9
  · rw [← h.2]; exact hn
/-- the cells that the invariant does not speak of, model aside -/
noncomputable def Sf (id : Nat) : Prop := id = 0 ∨ (4 ≤ id ∧ id ≤ 8) ∨ (10 ≤ id ∧ id ≤ 16) ∨ (20 ≤ id ∧ id ≤ 24) ∨ (26 ≤ id ∧ id ≤ 48) ∨ (50 ≤ id ∧ id ≤ 73) ∨ 1000 ≤ id
noncomputable def Ff (id k : Nat) : Prop := (id = 1 ∨ id = 17) ∧ k ≠ 1 ∧ k ≠ 3 ∧ k ≠ 9
theorem nSf {id : Nat} (h : id = 1 ∨ id = 2 ∨ id = 3 ∨ id = 9 ∨ id = 17 ∨ id = 18 ∨ id = 19 ∨ id = 25 ∨ id = 49) : ¬ Sf id := by unfold Sf; omega
theorem nFf {id k : Nat} (h : (id ≠ 1 ∧ id ≠ 17) ∨ k = 1 ∨ k = 3 ∨ k = 9) : ¬ Ff id k := by unfold Ff; omega
theorem IVX_fx {V V' : Vx} {σ σ' : Sg} (f : FX Sf Ff σ σ') (x : XI V' σ') (i : FI V' σ') (q : IVX V σ) : IVX V' σ' := by
  obtain ⟨q1, q2, q3, q4, q5, q6, q7, q8, q9, q10⟩ := q
  refine ⟨x, NN_fx q2 f (nSf (by decide +kernel)) (nSf (by decide +kernel)) (nSf (by decide +kernel)) (nFf (by decide +kernel)) (nFf (by decide +kernel)) (fun k => nFf (Or.inl (by decide +kernel))) (fun k => nFf (Or.inl (by decide +kernel))), NN_fx q3 f (nSf (by decide +kernel)) (nSf (by decide +kernel)) (nSf (by decide +kernel)) (nFf (by decide +kernel)) (nFf (by decide +kernel)) (fun k => nFf (Or.inl (by decide +kernel))) (fun k => nFf (Or.inl (by decide +kernel))), ?_, ?_, ?_, ?_, ?_, ?_, i⟩
  · rw [FX_i f (nSf (by decide +kernel)) (nFf (by decide +kernel)), FX_i f (nSf (by decide +kernel)) (nFf (by decide +kernel))]; exact q4
  · rw [FX_i f (nSf (by decide +kernel)) (nFf (by decide +kernel)), FX_i f (nSf (by decide +kernel)) (nFf (by decide +kernel))]; exact q5
  · rw [FX_i f (nSf (by decide +kernel)) (nFf (by decide +kernel))]; exact q6
  · rw [FX_i f (nSf (by decide +kernel)) (nFf (by decide +kernel))]; exact q7
  · rw [FX_i f (nSf (by decide +kernel)) (nFf (by decide +kernel))]; exact q8
  · rw [FX_i f (nSf (by decide +kernel)) (nFf (by decide +kernel))]; exact q9
theorem FI_fx {V : Vx} {S : Nat → Prop} {F : Nat → Nat → Prop} {σ σ' : Sg} (f : FX S F σ σ') (h1 : ¬ S 49) (h2 : ∀ k, ¬ F 49 k) (q : FI V σ) : FI V σ' := fun k hk hn => q k hk (by rw [← FX_r f h1 (h2 k)]; exact hn)
theorem Sf_lo {id : Nat} (h : Sf id) : id < 74 ∨ 1000 ≤ id := by unfold Sf at h; omega
theorem Ff_lo {id k : Nat} (h : Ff id k) : id < 74 ∨ 1000 ≤ id := by unfold Ff at h; omega
theorem INV_fx {V : Vx} {σ σ' : Sg} (f : FX Sf Ff σ σ') (x : XI V σ') (q : INV V σ) : INV V σ' :=
  ⟨IVX_fx f x (FI_fx f (nSf (by decide +kernel)) (fun k => nFf (Or.inl (by decide +kernel))) q.1.2.2.2.2.2.2.2.2.2) q.1, IVM_ag (MA_fx f (fun _ => Sf_lo) (fun _ _ => Ff_lo)) q.2⟩
theorem INV_m {V : Vx} {S F : List Nat} {σ σ' : Sg} (f : Fr S F σ σ') (h : ∀ id ∈ S, 74 ≤ id ∧ id < 1000) (q : INV V σ) (m : IVM σ') : INV V σ' := ⟨IVX_xa (XA_fr f h) q.1, m⟩
/-! plan's and book's answers: by the argument, what stands, and the highest that may come -/
noncomputable def PBA (r a n n2 : Int32) (hi top : Int) : Prop := (a.toInt = -1 → r.toInt = 0 ∧ n2.toInt = 0) ∧ ((a.toInt < -1 ∨ hi < a.toInt) → a.toInt ≠ -1 → r.toInt = -1 ∧ n2.toInt = n.toInt) ∧ (0 ≤ a.toInt → a.toInt ≤ hi → (top ≤ n.toInt → r.toInt = -4 ∧ n2.toInt = n.toInt) ∧ (n.toInt < top → r.toInt = n.toInt + 1 ∧ n2.toInt = n.toInt + 1))
theorem PBA_0 {a n n2 : Int32} {hi top : Int} (h : a.toInt = -1 ∧ n2.toInt = 0) : PBA 0 a n n2 hi top := ⟨fun _ => ⟨rfl, h.2⟩, fun _ q => absurd h.1 q, fun _ => by omega⟩
theorem PBA_1 {a n n2 : Int32} {hi top : Int} (h : (a.toInt < -1 ∨ hi < a.toInt) ∧ a.toInt ≠ -1 ∧ n2.toInt = n.toInt) : PBA (-1) a n n2 hi top := ⟨fun q => absurd q h.2.1, fun _ _ => ⟨rfl, h.2.2⟩, fun _ _ => by omega⟩
theorem PBA_2 {a n n2 : Int32} {hi top : Int} (h : 0 ≤ a.toInt ∧ a.toInt ≤ hi ∧ top ≤ n.toInt ∧ n2.toInt = n.toInt) : PBA (-4) a n n2 hi top := ⟨fun q => by omega, fun q _ => by omega, fun _ _ => ⟨fun _ => ⟨rfl, h.2.2.2⟩, fun q => by omega⟩⟩
theorem PBA_3 {r a n n2 : Int32} {hi top : Int} (h : 0 ≤ a.toInt ∧ a.toInt ≤ hi ∧ n.toInt < top ∧ n2.toInt = n.toInt + 1 ∧ r.toInt = n2.toInt) : PBA r a n n2 hi top := ⟨fun q => by omega, fun q _ => by omega, fun _ _ => ⟨fun q => by omega, fun _ => by omega⟩⟩
set_option maxRecDepth 100000 in
set_option maxHeartbeats 4000000 in
theorem kt_X11_book {l : Launch} {V : Vx} {a1 : Int32} {σ0 : Sg} {Qk : Int32 → Sg → Prop} (m0 : XI V σ0) (h9ret : ∀ (r : Int32) (σ' : Sg), XI V σ' → FX (fun id => id = 14) (fun id k => (id = 13 ∧ k = 1)) σ0 σ' → (PBA r a1 (gi σ0 13 1) (gi σ' 13 1) ((gi σ0 1 1).toInt - 1) 8) → Qk r σ') : K_X11_book l V a1 σ0 Qk := by
  refine e_X11_book (fun M hl hV hN C => ?_)
  subst hl
  subst hV
  have c9 : capI 13 = 8 := rfl
  have n9 : (nl 13 : Int) = 8 := by decide +kernel
  have f0 : FX (fun id => id = 14) (fun id k => (id = 13 ∧ k = 1)) σ0 σ0 := FX_rf
  have t_1 := XI_c1 m0 (id := 1) (k := 1) (lim_C0_1 (Or.inl rfl))
  have t_2 := XI_c1 m0 (id := 13) (k := 1) (lim_C12_1 (Or.inl rfl))
  refine s_X11_book_0 C hN  ?_
  refine ⟨?_, ?_⟩
  · intro q_3
    have w_4 := Int32.toInt_lt a1
    have w_5 := Int32.le_toInt a1
    have b_6 : ¬ a1.toInt = (-1) := fun h9 => q_3 (Int32.toInt_inj.mp h9)
    refine k_X11_isMower  m0   (fun r3 σ2 mσ2 cσ2 plσ2 phσ2 (pσ2_0 : (r3.toInt = 1 ∧ 0 ≤ a1.toInt ∧ a1.toInt < (gi σ0 1 1).toInt) ∨ (r3.toInt = 0 ∧ (a1.toInt < 0 ∨ (gi σ0 1 1).toInt ≤ a1.toInt))) => ?_)
    obtain rfl := FX_nil cσ2
    refine ⟨?_, ?_⟩
    · intro q_7
      have b_8 : ¬ r3.toInt = 0 := fun h9 => q_7 (Int32.toInt_inj.mp h9)
      refine k_X5_isFull (isN_C12 (Or.inl rfl)) m0   (fun r6 σ5 mσ5 cσ5 plσ5 phσ5 (pσ5_0 : (r6.toInt = 1 ∧ (nl 13 : Int) ≤ (gi σ0 13 1).toInt) ∨ (r6.toInt = 0 ∧ (gi σ0 13 1).toInt < (nl 13 : Int))) => ?_)
      obtain rfl := FX_nil cσ5
      refine ⟨?_, ?_⟩
      · intro q_9
        have b_10 : r6.toInt = 0 := congrArg Int32.toInt q_9
        refine k_X5_comes (isN_C12 (Or.inl rfl)) m0  (by omega) (okNum_b (by omega) (by omega)) (fun σ8 mσ8 cσ8 (pσ8_0 : (gi σ8 13 1).toInt = (gi σ0 13 1).toInt + 1) => ?_)
        have fσ8 : FX (fun id => id = 14) (fun id k => (id = 13 ∧ k = 1)) σ0 σ8 := FX_tr f0 cσ8 (fun x (h9 : x = 14) => (show x = 14 from h9)) (fun x k (h9 : (x = 13 ∧ k = 1)) => (show (x = 14) ∨ ((x = 13 ∧ k = 1)) from Or.inr (show (x = 13 ∧ k = 1) from h9)))
        have k_11 : (gi σ8 1 1).toInt = (gi σ0 1 1).toInt := congrArg Int32.toInt (FX_i cσ8 (show ¬ (1 = 14) from by omega) (show ¬ ((1 = 13 ∧ 1 = 1)) from by omega))
        have t_12 := XI_c1 mσ8 (id := 13) (k := 1) (lim_C12_1 (Or.inl rfl))
        exact h9ret (gi σ8 13 1) σ8 mσ8 fσ8 (by first | assumption | exact PBA_0 (by omega) | exact PBA_1 (by omega) | exact PBA_2 (by omega) | exact PBA_3 (by omega))
      · intro q_9
        have b_13 : ¬ r6.toInt = 0 := fun h9 => q_9 (Int32.toInt_inj.mp h9)
        have z_14 : (-4 : Int32).toInt = -4 := rfl
        exact h9ret (-4 : Int32) σ0 m0 f0 (by first | assumption | exact PBA_0 (by omega) | exact PBA_1 (by omega) | exact PBA_2 (by omega) | exact PBA_3 (by omega))
    · intro q_7
      have b_15 : r3.toInt = 0 := congrArg Int32.toInt q_7
      have z_16 : (-1 : Int32).toInt = -1 := rfl
      exact h9ret (-1 : Int32) σ0 m0 f0 (by first | assumption | exact PBA_0 (by omega) | exact PBA_1 (by omega) | exact PBA_2 (by omega) | exact PBA_3 (by omega))
  · intro q_3
    have w_17 := Int32.toInt_lt a1
    have w_18 := Int32.le_toInt a1
    have b_19 : a1.toInt = (-1) := congrArg Int32.toInt q_3
    intro σ9 eσ9
    have z_20 : (0 : Int32).toInt = 0 := rfl
    have mσ9 : XI (mV M) σ9 := by rw [eσ9]; exact XIs_b m0 (lim_C12_1 (Or.inl rfl)) (by omega) (by omega)
    have fσ9 : FX (fun id => id = 14) (fun id k => (id = 13 ∧ k = 1)) σ0 σ9 := by rw [eσ9]; exact FX_si f0 (Or.inr (show (13 = 13 ∧ 1 = 1) from ⟨rfl, rfl⟩))
    have k_21 : (gi σ9 1 1).toInt = (gi σ0 1 1).toInt := by rw [eσ9]; exact congrArg Int32.toInt (gi_si_ne (Or.inl (by omega)))
    have k_22 : (gi σ9 13 1).toInt = 0 := by rw [eσ9]; exact congrArg Int32.toInt gi_si_eq
    exact h9ret (0 : Int32) σ9 mσ9 fσ9 (by first | assumption | exact PBA_0 (by omega) | exact PBA_1 (by omega) | exact PBA_2 (by omega) | exact PBA_3 (by omega))
set_option maxRecDepth 100000 in
set_option maxHeartbeats 4000000 in
theorem kt_X12_book {l : Launch} {V : Vx} {a1 : Int32} {σ0 : Sg} {Qk : Int32 → Sg → Prop} (m0 : MI σ0) (h9ret : ∀ (r : Int32) (σ' : Sg), MI σ' → Fr [74, 148] [46] σ0 σ' → (PBA r a1 (gi σ0 74 46) (gi σ' 74 46) ((gi σ0 74 0).toInt - 1) 8) → Qk r σ') : K_X12_book l V a1 σ0 Qk := by
  refine e_X12_book (fun M hl hV hN C => ?_)
  subst hl
  subst hV
  have f0 : Fr [74, 148] [46] σ0 σ0 := Fr_rf
  refine s_X12_book_0 C hN ?_
  refine ⟨?_, ?_⟩
  · intro q_1
    have w_2 := Int32.toInt_lt a1
    have w_3 := Int32.le_toInt a1
    have b_4 : ¬ a1.toInt = (-1) := fun h9 => q_1 (Int32.toInt_inj.mp h9)
    refine k_X12_isMower m0  (fun r3 σ2 mσ2 cσ2 plσ2 phσ2 (pσ2_0 : (r3.toInt = 1 ∧ 0 ≤ a1.toInt ∧ a1.toInt < (gi σ0 74 0).toInt) ∨ (r3.toInt = 0 ∧ (a1.toInt < 0 ∨ (gi σ0 74 0).toInt ≤ a1.toInt))) => ?_)
    obtain rfl := Fr_nil cσ2
    have t_5 := MI_f0 m0
    refine ⟨?_, ?_⟩
    · intro q_6
      have b_7 : ¬ r3.toInt = 0 := fun h9 => q_6 (Int32.toInt_inj.mp h9)
      refine ⟨?_, ?_⟩
      · intro q_8
        have t_9 := MI_f46 m0
        have b_10 : ¬ (gi σ0 74 46).toInt = 8 := fun h9 => q_8 (Int32.toInt_inj.mp h9)
        have hv_11 : vp_in (gi σ0 74 46) 8 := vp_in_iff.mpr ⟨by omega, by omega⟩
        refine ⟨hv_11, ?_⟩
        intro σ7 eσ7
        have mσ7 : MI σ7 := by rw [eσ7]; exact MIs_au (a := 148) m0 rfl rfl
        have fσ7 : Fr [74, 148] [46] σ0 σ7 := by rw [eσ7]; exact Fr_si f0 (by decide +kernel) (fun h9 => absurd h9 (by decide +kernel))
        have k_12 : (gi σ7 74 0).toInt = (gi σ0 74 0).toInt := gk_l eσ7 rfl
        have k_13 : (gi σ7 74 46).toInt = (gi σ0 74 46).toInt := gk_l eσ7 rfl
        intro σ8 eσ8
        have t_14 := MI_f46 mσ7
        have t_15 : ((gi σ7 74 46) + (1 : Int32)).toInt = (gi σ7 74 46).toInt + 1 := i_add (x := (gi σ7 74 46)) (y := (1 : Int32)) (by show (_ : Int) ≤ (gi σ7 74 46).toInt + 1; omega) (by show (gi σ7 74 46).toInt + 1 ≤ (_ : Int); omega)
        have mσ8 : MI σ8 := by rw [eσ8]; exact MIs_f46 mσ7 (by omega) (by omega)
        have fσ8 : Fr [74, 148] [46] σ0 σ8 := by rw [eσ8]; exact Fr_si fσ7 (by decide +kernel) (fun _ => by decide +kernel)
        have k_16 : (gi σ8 74 0).toInt = (gi σ7 74 0).toInt := gk_r eσ8 rfl
        have k_17 : (gi σ8 74 46).toInt = ((gi σ7 74 46) + (1 : Int32)).toInt := by rw [eσ8]; exact congrArg Int32.toInt gi_si_eq
        have t_18 := MI_f46 mσ8
        exact h9ret (gi σ8 74 46) σ8 mσ8 fσ8 (by first | assumption | exact PBA_0 (by omega) | exact PBA_1 (by omega) | exact PBA_2 (by omega) | exact PBA_3 (by omega))
      · intro q_8
        have t_19 := MI_f46 m0
        have b_20 : (gi σ0 74 46).toInt = 8 := congrArg Int32.toInt q_8
        have z_21 : (-4 : Int32).toInt = -4 := rfl
        exact h9ret (-4 : Int32) σ0 m0 f0 (by first | assumption | exact PBA_0 (by omega) | exact PBA_1 (by omega) | exact PBA_2 (by omega) | exact PBA_3 (by omega))
    · intro q_6
      have b_22 : r3.toInt = 0 := congrArg Int32.toInt q_6
      have z_23 : (-1 : Int32).toInt = -1 := rfl
      exact h9ret (-1 : Int32) σ0 m0 f0 (by first | assumption | exact PBA_0 (by omega) | exact PBA_1 (by omega) | exact PBA_2 (by omega) | exact PBA_3 (by omega))
  · intro q_1
    have w_24 := Int32.toInt_lt a1
    have w_25 := Int32.le_toInt a1
    have b_26 : a1.toInt = (-1) := congrArg Int32.toInt q_1
    intro σ9 eσ9
    have z_27 : (0 : Int32).toInt = 0 := rfl
    have mσ9 : MI σ9 := by rw [eσ9]; exact MIs_f46 m0 (by omega) (by omega)
    have fσ9 : Fr [74, 148] [46] σ0 σ9 := by rw [eσ9]; exact Fr_si f0 (by decide +kernel) (fun _ => by decide +kernel)
    have k_28 : (gi σ9 74 0).toInt = (gi σ0 74 0).toInt := gk_r eσ9 rfl
    have k_29 : (gi σ9 74 46).toInt = 0 := by rw [eσ9]; exact congrArg Int32.toInt gi_si_eq
    exact h9ret (0 : Int32) σ9 mσ9 fσ9 (by first | assumption | exact PBA_0 (by omega) | exact PBA_1 (by omega) | exact PBA_2 (by omega) | exact PBA_3 (by omega))
/-! the class's mower: its answer, and the count -/
noncomputable def MWA (r a1 a2 : Int32) (c1 c2 : Int) : Prop := ((a1.toInt < 0 ∨ 6 < a1.toInt) → r.toInt = -1 ∧ c2 = c1) ∧ (0 ≤ a1.toInt → a1.toInt ≤ 6 → ((a2.toInt < 0 ∨ 9 < a2.toInt) → r.toInt = -2 ∧ c2 = c1) ∧ (0 ≤ a2.toInt → a2.toInt ≤ 9 → (6 ≤ c1 → r.toInt = -4 ∧ c2 = c1) ∧ (c1 < 6 → r.toInt = c1 ∧ c2 = c1 + 1)))
theorem MWA_1 {a1 a2 : Int32} {c : Int} (h : a1.toInt < 0 ∨ 6 < a1.toInt) : MWA (-1) a1 a2 c c := ⟨fun _ => ⟨rfl, rfl⟩, fun _ _ => by omega⟩
theorem MWA_2 {a1 a2 : Int32} {c : Int} (h : 0 ≤ a1.toInt ∧ a1.toInt ≤ 6 ∧ (a2.toInt < 0 ∨ 9 < a2.toInt)) : MWA (-2) a1 a2 c c := ⟨fun _ => by omega, fun _ _ => ⟨fun _ => ⟨rfl, rfl⟩, fun _ _ => by omega⟩⟩
theorem MWA_4 {a1 a2 : Int32} {c : Int} (h : 0 ≤ a1.toInt ∧ a1.toInt ≤ 6 ∧ 0 ≤ a2.toInt ∧ a2.toInt ≤ 9 ∧ 6 ≤ c) : MWA (-4) a1 a2 c c := ⟨fun _ => by omega, fun _ _ => ⟨fun _ => by omega, fun _ _ => ⟨fun _ => ⟨rfl, rfl⟩, fun _ => by omega⟩⟩⟩
theorem MWA_0 {r a1 a2 : Int32} {c c2 : Int} (h : 0 ≤ a1.toInt ∧ a1.toInt ≤ 6 ∧ 0 ≤ a2.toInt ∧ a2.toInt ≤ 9 ∧ c < 6 ∧ r.toInt = c ∧ c2 = c + 1) : MWA r a1 a2 c c2 := ⟨fun _ => by omega, fun _ _ => ⟨fun _ => by omega, fun _ _ => ⟨fun _ => by omega, fun _ => ⟨h.2.2.2.2.2.1, h.2.2.2.2.2.2⟩⟩⟩⟩
/-! the methods as functions: how their texts are gone through -/
noncomputable def fl {α β : Type} (a : α) (f : α → β) : β := f a
noncomputable def fb {α β : Type} (x : α × Sg) (f : α → Sg → β) : β := f x.1 x.2
noncomputable def fop {α β : Type} (o : Option α) (A : β) (f : α → β) : β := match o with | none => A | some a => f a
noncomputable def fm {β : Type} (o : Option Nat) (A : β) (f : Nat → Nat → β) : β := match o with | none => A | some a => f a ((kd a).1 - 10)
theorem f_l {α β : Type} {a v : α} {f : α → β} {R : β} (e : v = a) (H : fl a f = R) : f v = R := by subst e; exact H
theorem f_v {β : Type} {x s : Sg} {f : Sg → β} {R : β} (e : x = s) (H : fl x f = R) : f s = R := by subst e; exact H
theorem f_b {α β : Type} {x : α × Sg} {r : α} {s : Sg} {f : α → Sg → β} {R : β} (e : x = (r, s)) (H : fb x f = R) : f r s = R := by subst e; exact H
theorem f_t {β : Type} {c : Prop} {d : Decidable c} {A B R : β} (q : c) (H : @ite β c d A B = R) : A = R := by rw [if_pos q] at H; exact H
theorem f_f {β : Type} {c : Prop} {d : Decidable c} {A B R : β} (q : ¬ c) (H : @ite β c d A B = R) : B = R := by rw [if_neg q] at H; exact H
theorem f_o {α β : Type} {o : Option α} {a : α} {A : β} {f : α → β} {R : β} (e : o = some a) (H : fop o A f = R) : f a = R := by subst e; exact H
theorem f_m {β : Type} {o : Option Nat} {a ci z : Nat} {A : β} {f : Nat → Nat → β} {R : β} (e : o = some a) (hk : kd a = (10 + ci, z)) (H : fm o A f = R) : f a ci = R := by
  subst e
  have H : f a ((kd a).1 - 10) = R := H
  rw [hk, show (10 + ci, z).1 - 10 = ci from Nat.add_sub_cancel_left _ _] at H
  exact H
noncomputable def F_X9_isEmpty (c0 : Nat) (σ : Sg) : Int32 × Sg := (if 0 ≤ (gi σ c0 1) then ((0 : Int32), σ) else ((1 : Int32), σ))
set_option maxRecDepth 100000 in
set_option maxHeartbeats 4000000 in
theorem kF_X9_isEmpty {l : Launch} {V : Vx} {c0 : Nat} {σ0 : Sg} {Qk : Int32 → Sg → Prop} (hc0 : isT c0) (m0 : XI V σ0) (h9ret : ∀ (r : Int32) (σ' : Sg), XI V σ' → FX (fun id => False) (fun _ _ => False) σ0 σ' → (0 ≤ r.toInt) → (r.toInt ≤ 1) → (F_X9_isEmpty c0 σ0 = (r, σ')) → Qk r σ') : K_X9_isEmpty l V c0 σ0 Qk := by
  refine e_X9_isEmpty (fun M hl hV hN C => ?_)
  subst hl
  subst hV
  obtain ⟨R9, H0⟩ : ∃ R9, F_X9_isEmpty c0 σ0 = R9 := ⟨_, rfl⟩
  have oc0 : hid (c0 = 52 ∨ c0 = 54 ∨ c0 = 56 ∨ c0 = 58 ∨ c0 = 60 ∨ c0 = 62) := hc0
  have f0 : FX (fun id => False) (fun _ _ => False) σ0 σ0 := FX_rf
  have t_1 := XI_c1 m0 (id := c0) (k := 1) (lim_T0_1 hc0)
  have H := H0
  unfold F_X9_isEmpty at H
  refine s_X9_isEmpty_0 C hN hc0 ?_
  refine ⟨?_, ?_⟩
  · intro q_2
    replace H := f_t q_2 H
    have b_3 : (0 : Int) ≤ (gi σ0 c0 1).toInt := Int32.le_iff_toInt_le.mp q_2
    have z_4 : (0 : Int32).toInt = 0 := rfl
    exact h9ret (0 : Int32) σ0 m0 f0 (by omega) (by omega) (H0.trans H.symm)
  · intro q_2
    replace H := f_f q_2 H
    have b_5 : ¬ (0 : Int) ≤ (gi σ0 c0 1).toInt := fun h9 => q_2 (Int32.le_iff_toInt_le.mpr h9)
    have z_6 : (1 : Int32).toInt = 1 := rfl
    exact h9ret (1 : Int32) σ0 m0 f0 (by omega) (by omega) (H0.trans H.symm)
noncomputable def F_X9_has (c0 : Nat) (a1 : Int32) (σ : Sg) : Int32 × Sg := (if a1 < 0 then ((0 : Int32), σ) else (if (gi σ c0 2) ≤ a1 then ((0 : Int32), σ) else ((1 : Int32), σ)))
set_option maxRecDepth 100000 in
set_option maxHeartbeats 4000000 in
theorem kF_X9_has {l : Launch} {V : Vx} {c0 : Nat} {a1 : Int32} {σ0 : Sg} {Qk : Int32 → Sg → Prop} (hc0 : isT c0) (m0 : XI V σ0) (h9ret : ∀ (r : Int32) (σ' : Sg), XI V σ' → FX (fun id => False) (fun _ _ => False) σ0 σ' → (0 ≤ r.toInt) → (r.toInt ≤ 1) → ((r.toInt = 1 ∧ 0 ≤ a1.toInt ∧ a1.toInt < (gi σ0 c0 2).toInt) ∨ r.toInt = 0) → (F_X9_has c0 a1 σ0 = (r, σ')) → Qk r σ') : K_X9_has l V c0 a1 σ0 Qk := by
  refine e_X9_has (fun M hl hV hN C => ?_)
  subst hl
  subst hV
  obtain ⟨R9, H0⟩ : ∃ R9, F_X9_has c0 a1 σ0 = R9 := ⟨_, rfl⟩
  have oc0 : hid (c0 = 52 ∨ c0 = 54 ∨ c0 = 56 ∨ c0 = 58 ∨ c0 = 60 ∨ c0 = 62) := hc0
  have f0 : FX (fun id => False) (fun _ _ => False) σ0 σ0 := FX_rf
  have t_1 := XI_c1 m0 (id := c0) (k := 2) (lim_T0_2 hc0)
  have H := H0
  unfold F_X9_has at H
  refine s_X9_has_0 C hN hc0 ?_
  refine ⟨?_, ?_⟩
  · intro q_2
    replace H := f_t q_2 H
    have w_3 := Int32.toInt_lt a1
    have w_4 := Int32.le_toInt a1
    have b_5 : a1.toInt < 0 := Int32.lt_iff_toInt_lt.mp q_2
    have z_6 : (0 : Int32).toInt = 0 := rfl
    exact h9ret (0 : Int32) σ0 m0 f0 (by omega) (by omega) (by first | with_reducible assumption | with_reducible rfl | omega | assumption | rfl) (H0.trans H.symm)
  · intro q_2
    replace H := f_f q_2 H
    have w_7 := Int32.toInt_lt a1
    have w_8 := Int32.le_toInt a1
    have b_9 : ¬ a1.toInt < 0 := fun h9 => q_2 (Int32.lt_iff_toInt_lt.mpr h9)
    refine ⟨?_, ?_⟩
    · intro q_10
      replace H := f_t q_10 H
      have b_11 : (gi σ0 c0 2).toInt ≤ a1.toInt := Int32.le_iff_toInt_le.mp q_10
      have z_12 : (0 : Int32).toInt = 0 := rfl
      exact h9ret (0 : Int32) σ0 m0 f0 (by omega) (by omega) (by first | with_reducible assumption | with_reducible rfl | omega | assumption | rfl) (H0.trans H.symm)
    · intro q_10
      replace H := f_f q_10 H
      have b_13 : ¬ (gi σ0 c0 2).toInt ≤ a1.toInt := fun h9 => q_10 (Int32.le_iff_toInt_le.mpr h9)
      have z_14 : (1 : Int32).toInt = 1 := rfl
      exact h9ret (1 : Int32) σ0 m0 f0 (by omega) (by omega) (by first | with_reducible assumption | with_reducible rfl | omega | assumption | rfl) (H0.trans H.symm)
noncomputable def F_X9_hasPart (c0 : Nat) (a1 : Int32) (a2 : Int32) (σ : Sg) : Int32 × Sg := (if a2 < 0 then ((0 : Int32), σ) else (if a1 < 0 then ((0 : Int32), σ) else (if (gi σ c0 2) < a2 then ((0 : Int32), σ) else (if ((gi σ c0 2) - a2) < a1 then ((0 : Int32), σ) else ((1 : Int32), σ)))))
set_option maxRecDepth 100000 in
set_option maxHeartbeats 4000000 in
theorem kF_X9_hasPart {l : Launch} {V : Vx} {c0 : Nat} {a1 : Int32} {a2 : Int32} {σ0 : Sg} {Qk : Int32 → Sg → Prop} (hc0 : isT c0) (m0 : XI V σ0) (h9ret : ∀ (r : Int32) (σ' : Sg), XI V σ' → FX (fun id => False) (fun _ _ => False) σ0 σ' → (0 ≤ r.toInt) → (r.toInt ≤ 1) → ((r.toInt = 1 ∧ 0 ≤ a1.toInt ∧ 0 ≤ a2.toInt ∧ a1.toInt + a2.toInt ≤ (gi σ0 c0 2).toInt) ∨ r.toInt = 0) → (F_X9_hasPart c0 a1 a2 σ0 = (r, σ')) → Qk r σ') : K_X9_hasPart l V c0 a1 a2 σ0 Qk := by
  refine e_X9_hasPart (fun M hl hV hN C => ?_)
  subst hl
  subst hV
  obtain ⟨R9, H0⟩ : ∃ R9, F_X9_hasPart c0 a1 a2 σ0 = R9 := ⟨_, rfl⟩
  have oc0 : hid (c0 = 52 ∨ c0 = 54 ∨ c0 = 56 ∨ c0 = 58 ∨ c0 = 60 ∨ c0 = 62) := hc0
  have f0 : FX (fun id => False) (fun _ _ => False) σ0 σ0 := FX_rf
  have t_1 := XI_c1 m0 (id := c0) (k := 2) (lim_T0_2 hc0)
  have H := H0
  unfold F_X9_hasPart at H
  refine s_X9_hasPart_0 C hN hc0 ?_
  refine ⟨?_, ?_⟩
  · intro q_2
    replace H := f_t q_2 H
    have w_3 := Int32.toInt_lt a2
    have w_4 := Int32.le_toInt a2
    have b_5 : a2.toInt < 0 := Int32.lt_iff_toInt_lt.mp q_2
    have z_6 : (0 : Int32).toInt = 0 := rfl
    exact h9ret (0 : Int32) σ0 m0 f0 (by omega) (by omega) (by first | with_reducible assumption | with_reducible rfl | omega | assumption | rfl) (H0.trans H.symm)
  · intro q_2
    replace H := f_f q_2 H
    have w_7 := Int32.toInt_lt a2
    have w_8 := Int32.le_toInt a2
    have b_9 : ¬ a2.toInt < 0 := fun h9 => q_2 (Int32.lt_iff_toInt_lt.mpr h9)
    refine ⟨?_, ?_⟩
    · intro q_10
      replace H := f_t q_10 H
      have w_11 := Int32.toInt_lt a1
      have w_12 := Int32.le_toInt a1
      have b_13 : a1.toInt < 0 := Int32.lt_iff_toInt_lt.mp q_10
      have z_14 : (0 : Int32).toInt = 0 := rfl
      exact h9ret (0 : Int32) σ0 m0 f0 (by omega) (by omega) (by first | with_reducible assumption | with_reducible rfl | omega | assumption | rfl) (H0.trans H.symm)
    · intro q_10
      replace H := f_f q_10 H
      have w_15 := Int32.toInt_lt a1
      have w_16 := Int32.le_toInt a1
      have b_17 : ¬ a1.toInt < 0 := fun h9 => q_10 (Int32.lt_iff_toInt_lt.mpr h9)
      refine ⟨?_, ?_⟩
      · intro q_18
        replace H := f_t q_18 H
        have b_19 : (gi σ0 c0 2).toInt < a2.toInt := Int32.lt_iff_toInt_lt.mp q_18
        have z_20 : (0 : Int32).toInt = 0 := rfl
        exact h9ret (0 : Int32) σ0 m0 f0 (by omega) (by omega) (by first | with_reducible assumption | with_reducible rfl | omega | assumption | rfl) (H0.trans H.symm)
      · intro q_18
        replace H := f_f q_18 H
        have b_21 : ¬ (gi σ0 c0 2).toInt < a2.toInt := fun h9 => q_18 (Int32.lt_iff_toInt_lt.mpr h9)
        refine ⟨?_, ?_⟩
        · intro q_22
          replace H := f_t q_22 H
          try have t_23 : ((gi σ0 c0 2) - a2).toInt = (gi σ0 c0 2).toInt - a2.toInt := i_sub (x := (gi σ0 c0 2)) (y := a2) (by show (_ : Int) ≤ (gi σ0 c0 2).toInt - a2.toInt; omega) (by show (gi σ0 c0 2).toInt - a2.toInt ≤ (_ : Int); omega)
          have b_24 : ((gi σ0 c0 2) - a2).toInt < a1.toInt := Int32.lt_iff_toInt_lt.mp q_22
          have z_25 : (0 : Int32).toInt = 0 := rfl
          exact h9ret (0 : Int32) σ0 m0 f0 (by omega) (by omega) (by first | with_reducible assumption | with_reducible rfl | omega | assumption | rfl) (H0.trans H.symm)
        · intro q_22
          replace H := f_f q_22 H
          try have t_26 : ((gi σ0 c0 2) - a2).toInt = (gi σ0 c0 2).toInt - a2.toInt := i_sub (x := (gi σ0 c0 2)) (y := a2) (by show (_ : Int) ≤ (gi σ0 c0 2).toInt - a2.toInt; omega) (by show (gi σ0 c0 2).toInt - a2.toInt ≤ (_ : Int); omega)
          have b_27 : ¬ ((gi σ0 c0 2) - a2).toInt < a1.toInt := fun h9 => q_22 (Int32.lt_iff_toInt_lt.mpr h9)
          have z_28 : (1 : Int32).toInt = 1 := rfl
          exact h9ret (1 : Int32) σ0 m0 f0 (by omega) (by omega) (by first | with_reducible assumption | with_reducible rfl | omega | assumption | rfl) (H0.trans H.symm)
noncomputable def F_X9_cut (c0 : Nat) (a1 : Int64) (σ : Sg) : Int64 × Sg := (if (gi σ c0 1).toInt = 0 then (a1.toInt32.toInt8.toInt32.toInt64, σ) else (if (gi σ c0 1).toInt = 1 then (a1.toInt32.toInt16.toInt32.toInt64, σ) else (if (gi σ c0 1).toInt = 2 then (a1.toInt32.toInt64, σ) else (if (gi σ c0 1).toInt = 3 then (a1, σ) else (if (gi σ c0 1).toInt = 4 then (if (lg_cmp a1 (0 : Int64)) = 0 then ((0 : Int64), σ) else ((1 : Int64), σ)) else (a1, σ))))))
set_option maxRecDepth 100000 in
set_option maxHeartbeats 4000000 in
theorem kF_X9_cut {l : Launch} {V : Vx} {c0 : Nat} {a1 : Int64} {σ0 : Sg} {Qk : Int64 → Sg → Prop} (hc0 : isT c0) (m0 : XI V σ0) (h9ret : ∀ (r : Int64) (σ' : Sg), XI V σ' → FX (fun id => False) (fun _ _ => False) σ0 σ' → (F_X9_cut c0 a1 σ0 = (r, σ')) → Qk r σ') : K_X9_cut l V c0 a1 σ0 Qk := by
  refine e_X9_cut (fun M hl hV hN C => ?_)
  subst hl
  subst hV
  obtain ⟨R9, H0⟩ : ∃ R9, F_X9_cut c0 a1 σ0 = R9 := ⟨_, rfl⟩
  have oc0 : hid (c0 = 52 ∨ c0 = 54 ∨ c0 = 56 ∨ c0 = 58 ∨ c0 = 60 ∨ c0 = 62) := hc0
  have f0 : FX (fun id => False) (fun _ _ => False) σ0 σ0 := FX_rf
  have t_1 := XI_c1 m0 (id := c0) (k := 1) (lim_T0_1 hc0)
  have H := H0
  unfold F_X9_cut at H
  refine s_X9_cut_0 C hN hc0 ?_
  refine ⟨?_, ?_, ?_, ?_, ?_, ?_⟩
  · intro q_2
    replace H := f_f (by omega) H
    replace H := f_f (by omega) H
    replace H := f_f (by omega) H
    replace H := f_f (by omega) H
    replace H := f_f (by omega) H
    exact h9ret a1 σ0 m0 f0 (H0.trans H.symm)
  · intro q_2
    replace H := f_t q_2 H
    exact h9ret a1.toInt32.toInt8.toInt32.toInt64 σ0 m0 f0 (H0.trans H.symm)
  · intro q_2
    replace H := f_f (by omega) H
    replace H := f_t q_2 H
    exact h9ret a1.toInt32.toInt16.toInt32.toInt64 σ0 m0 f0 (H0.trans H.symm)
  · intro q_2
    replace H := f_f (by omega) H
    replace H := f_f (by omega) H
    replace H := f_t q_2 H
    exact h9ret a1.toInt32.toInt64 σ0 m0 f0 (H0.trans H.symm)
  · intro q_2
    replace H := f_f (by omega) H
    replace H := f_f (by omega) H
    replace H := f_f (by omega) H
    replace H := f_t q_2 H
    exact h9ret a1 σ0 m0 f0 (H0.trans H.symm)
  · intro q_2
    replace H := f_f (by omega) H
    replace H := f_f (by omega) H
    replace H := f_f (by omega) H
    replace H := f_f (by omega) H
    replace H := f_t q_2 H
    refine ⟨?_, ?_⟩
    · intro q_3
      replace H := f_t q_3 H
      exact h9ret (0 : Int64) σ0 m0 f0 (H0.trans H.symm)
    · intro q_3
      replace H := f_f q_3 H
      exact h9ret (1 : Int64) σ0 m0 f0 (H0.trans H.symm)
noncomputable def LB_J7_fill_d0a16_6 (a1 : Nat) (rec : Int64 → Int32 → Int32 → Sg → Sg) (x1 : Int64) (x3 : Int32) (x4 : Int32) (σ : Sg) : Sg := (if x4 ≤ x3 then σ else fl (sl σ a1 x3.toNatClampNeg x1) (fun σ3 => fl (x3 + 1) (fun v4 => rec x1 v4 x4 σ3)))
noncomputable def LF_J7_fill_d0a16 (a1 : Nat) : Nat → Int64 → Int32 → Int32 → Sg → Sg
  | 0, _, _, _, σ => σ
  | n + 1, x1, x3, x4, σ => LB_J7_fill_d0a16_6 a1 (LF_J7_fill_d0a16 a1 n) x1 x3 x4 σ
noncomputable def F_J7_fill_d0a16 (a1 : Nat) (a2 : Int64) (σ : Sg) : Sg := fl (Int32.ofNat 60) (fun v1 => LF_J7_fill_d0a16 a1 90 a2 (0 : Int32) v1 σ)
set_option maxRecDepth 100000 in
set_option maxHeartbeats 4000000 in
theorem kF_J7_fill_d0a16 {l : Launch} {V : Vx} {a1 : Nat} {a2 : Int64} {σ0 : Sg} {Qk : Sg → Prop} {na1 : Nat} (ha1 : kd a1 = (3, na1)) (la1 : a1 ∈ ids (V)) (m0 : XI V σ0) (pre0 : na1 = 60) (h9ret : ∀ (σ' : Sg), XI V σ' → FX (fun id => id = a1) (fun _ _ => False) σ0 σ' → (F_J7_fill_d0a16 a1 a2 σ0 = σ') → Qk σ') : K_J7_fill_d0a16 l V a1 a2 σ0 Qk := by
  refine e_J7_fill_d0a16 (fun M hl hV hN C => ?_)
  subst hl
  subst hV
  obtain ⟨R9, H0⟩ : ∃ R9, F_J7_fill_d0a16 a1 a2 σ0 = R9 := ⟨_, rfl⟩
  have T : ∀ n : Nat, (∀ (x1 : Int64) (x3 : Int32) (x4 : Int32) (σ : Sg), XI (mV M) σ → FX (fun id => id = a1) (fun _ _ => False) σ0 σ → (0 ≤ x3.toInt) → (x3.toInt ≤ 60) → (60 ≤ x4.toInt) → (x4.toInt ≤ 60) → (LF_J7_fill_d0a16 a1 n x1 x3 x4 σ = R9) → (61 - x3.toInt).toNat < n → PS M 6 [(0, .ref a1), (1, .long x1), (3, .int x3), (4, .int x4)] [] σ (0, 0)) := by
    intro n
    induction n with
    | zero => exact fun _ _ _ _ _ _ _ _ _ _ _ h8 => absurd h8 (Nat.not_lt_zero _)
    | succ n ih =>
      have ih6 := ih
      · intro x1 x3 x4 σ mσ fσ lx3 ux3 lx4 ux4 H hmu
        replace H : LB_J7_fill_d0a16_6 a1 (LF_J7_fill_d0a16 a1 n) x1 x3 x4 σ = R9 := H
        unfold LB_J7_fill_d0a16_6 at H
        refine s_J7_fill_d0a16_6 C hN ha1 la1 ?_
        refine ⟨?_, ?_⟩
        · intro q_1
          replace H := f_t q_1 H
          have b_2 : x4.toInt ≤ x3.toInt := Int32.le_iff_toInt_le.mp q_1
          exact h9ret σ mσ fσ (H0.trans H.symm)
        · intro q_1
          replace H := f_f q_1 H
          have b_3 : ¬ x4.toInt ≤ x3.toInt := fun h9 => q_1 (Int32.le_iff_toInt_le.mpr h9)
          have hv_4 : vp_in x3 na1 := vp_in_iff.mpr ⟨by omega, by omega⟩
          refine ⟨hv_4, ?_⟩
          intro σ3 eσ3
          replace H := f_l eσ3 H
          have mσ3 : XI (mV M) σ3 := by rw [eσ3]; exact XIs_l mσ
          have fσ3 : FX (fun id => id = a1) (fun _ _ => False) σ0 σ3 := by rw [eσ3]; exact FX_sl fσ ((show a1 = a1 from rfl))
          intro v4 ev4
          replace H := f_l ev4 H
          have t_5 : (x3 + (1 : Int32)).toInt = x3.toInt + 1 := i_add (x := x3) (y := (1 : Int32)) (by show (_ : Int) ≤ x3.toInt + 1; omega) (by show x3.toInt + 1 ≤ (_ : Int); omega)
          have t_6 : v4.toInt = (x3 + (1 : Int32)).toInt := congrArg Int32.toInt ev4
          exact ih6 x1 v4 x4 σ3 mσ3 fσ3 (by omega) (by omega) (by omega) (by omega) H (by omega)
  have U6 := T 90
  have f0 : FX (fun id => id = a1) (fun _ _ => False) σ0 σ0 := FX_rf
  have H := H0
  unfold F_J7_fill_d0a16 at H
  refine s_J7_fill_d0a16_0 C hN ha1 la1 ?_
  intro v1 ev1
  replace H := f_l (show v1 = _ from by rw [ev1, pre0]) H
  have e60 : v1.toInt = 60 := by rw [ev1, pre0]; rfl
  have z_7 : (0 : Int32).toInt = 0 := rfl
  have w_8 := Int32.toInt_lt v1
  have w_9 := Int32.le_toInt v1
  exact U6 a2 (0 : Int32) v1 σ0 m0 f0 (by omega) (by omega) (by omega) (by omega) H (by omega)
noncomputable def F_X9_becomes (c0 : Nat) (a1 : Int32) (a2 : Int32) (σ : Sg) : Sg := fl (si σ c0 1 a1) (fun σ1 => fl (si σ1 c0 2 a2) (fun σ2 => fl (F_J7_fill_d0a16 (c0 + 1) (0 : Int64) σ2) (fun σ3 => σ3)))
set_option maxRecDepth 100000 in
set_option maxHeartbeats 4000000 in
theorem kF_X9_becomes {l : Launch} {V : Vx} {c0 : Nat} {a1 : Int32} {a2 : Int32} {σ0 : Sg} {Qk : Sg → Prop} (hc0 : isT c0) (m0 : XI V σ0) (l_a1 : -1 ≤ a1.toInt) (u_a1 : a1.toInt ≤ 4) (l_a2 : 0 ≤ a2.toInt) (u_a2 : a2.toInt ≤ 60) (h9ret : ∀ (σ' : Sg), XI V σ' → FX (fun id => id = c0 + 1) (fun id k => (id = c0 ∧ k = 1) ∨ (id = c0 ∧ k = 2)) σ0 σ' → (F_X9_becomes c0 a1 a2 σ0 = σ') → Qk σ') : K_X9_becomes l V c0 a1 a2 σ0 Qk := by
  refine e_X9_becomes (fun M hl hV hN C => ?_)
  subst hl
  subst hV
  obtain ⟨R9, H0⟩ : ∃ R9, F_X9_becomes c0 a1 a2 σ0 = R9 := ⟨_, rfl⟩
  have oc0 : hid (c0 = 52 ∨ c0 = 54 ∨ c0 = 56 ∨ c0 = 58 ∨ c0 = 60 ∨ c0 = 62) := hc0
  have f0 : FX (fun id => id = c0 + 1) (fun id k => (id = c0 ∧ k = 1) ∨ (id = c0 ∧ k = 2)) σ0 σ0 := FX_rf
  have H := H0
  unfold F_X9_becomes at H
  refine s_X9_becomes_0 C hN hc0 ?_
  intro σ1 eσ1
  replace H := f_l eσ1 H
  have mσ1 : XI (mV M) σ1 := by rw [eσ1]; exact XIs_b m0 (lim_T0_1 hc0) (by omega) (by omega)
  have fσ1 : FX (fun id => id = c0 + 1) (fun id k => (id = c0 ∧ k = 1) ∨ (id = c0 ∧ k = 2)) σ0 σ1 := by rw [eσ1]; exact FX_si f0 (Or.inr (show (c0 = c0 ∧ 1 = 1) ∨ (c0 = c0 ∧ 1 = 2) from Or.inl (⟨rfl, rfl⟩)))
  intro σ2 eσ2
  replace H := f_l eσ2 H
  have mσ2 : XI (mV M) σ2 := by rw [eσ2]; exact XIs_b mσ1 (lim_T0_2 hc0) (by omega) (by omega)
  have fσ2 : FX (fun id => id = c0 + 1) (fun id k => (id = c0 ∧ k = 1) ∨ (id = c0 ∧ k = 2)) σ0 σ2 := by rw [eσ2]; exact FX_si fσ1 (Or.inr (show (c0 = c0 ∧ 2 = 1) ∨ (c0 = c0 ∧ 2 = 2) from Or.inr (⟨rfl, rfl⟩)))
  refine kF_J7_fill_d0a16 (kdT_1 hc0) (fxl (fxT_1 hc0)) mσ2  (by first | with_reducible assumption | with_reducible rfl | omega | assumption | rfl) (fun σ3 mσ3 cσ3 hσ3 => ?_)
  replace H := f_v hσ3 H
  have fσ3 : FX (fun id => id = c0 + 1) (fun id k => (id = c0 ∧ k = 1) ∨ (id = c0 ∧ k = 2)) σ0 σ3 := FX_tr fσ2 cσ3 (fun x (h9 : x = c0 + 1) => (show x = c0 + 1 from h9)) (fun _ _ h9 => h9.elim)
  exact h9ret σ3 mσ3 fσ3 (H0.trans H.symm)
noncomputable def F_X11_isTape (a1 : Int32) (σ : Sg) : Int32 × Sg := (if a1 < 0 then ((0 : Int32), σ) else (if (6 : Int32) ≤ a1 then ((0 : Int32), σ) else ((1 : Int32), σ)))
set_option maxRecDepth 100000 in
set_option maxHeartbeats 4000000 in
theorem kF_X11_isTape {l : Launch} {V : Vx} {a1 : Int32} {σ0 : Sg} {Qk : Int32 → Sg → Prop} (m0 : XI V σ0) (h9ret : ∀ (r : Int32) (σ' : Sg), XI V σ' → FX (fun id => False) (fun _ _ => False) σ0 σ' → (0 ≤ r.toInt) → (r.toInt ≤ 1) → ((r.toInt = 1 ∧ 0 ≤ a1.toInt ∧ a1.toInt ≤ 5) ∨ (r.toInt = 0 ∧ (a1.toInt < 0 ∨ 5 < a1.toInt))) → (F_X11_isTape a1 σ0 = (r, σ')) → Qk r σ') : K_X11_isTape l V a1 σ0 Qk := by
  refine e_X11_isTape (fun M hl hV hN C => ?_)
  subst hl
  subst hV
  obtain ⟨R9, H0⟩ : ∃ R9, F_X11_isTape a1 σ0 = R9 := ⟨_, rfl⟩
  have f0 : FX (fun id => False) (fun _ _ => False) σ0 σ0 := FX_rf
  have H := H0
  unfold F_X11_isTape at H
  refine s_X11_isTape_0 C hN  ?_
  refine ⟨?_, ?_⟩
  · intro q_1
    replace H := f_t q_1 H
    have w_2 := Int32.toInt_lt a1
    have w_3 := Int32.le_toInt a1
    have b_4 : a1.toInt < 0 := Int32.lt_iff_toInt_lt.mp q_1
    have z_5 : (0 : Int32).toInt = 0 := rfl
    exact h9ret (0 : Int32) σ0 m0 f0 (by omega) (by omega) (by first | with_reducible assumption | with_reducible rfl | omega | assumption | rfl) (H0.trans H.symm)
  · intro q_1
    replace H := f_f q_1 H
    have w_6 := Int32.toInt_lt a1
    have w_7 := Int32.le_toInt a1
    have b_8 : ¬ a1.toInt < 0 := fun h9 => q_1 (Int32.lt_iff_toInt_lt.mpr h9)
    refine ⟨?_, ?_⟩
    · intro q_9
      replace H := f_t q_9 H
      have b_10 : (6 : Int) ≤ a1.toInt := Int32.le_iff_toInt_le.mp q_9
      have z_11 : (0 : Int32).toInt = 0 := rfl
      exact h9ret (0 : Int32) σ0 m0 f0 (by omega) (by omega) (by first | with_reducible assumption | with_reducible rfl | omega | assumption | rfl) (H0.trans H.symm)
    · intro q_9
      replace H := f_f q_9 H
      have b_12 : ¬ (6 : Int) ≤ a1.toInt := fun h9 => q_9 (Int32.le_iff_toInt_le.mpr h9)
      have z_13 : (1 : Int32).toInt = 1 := rfl
      exact h9ret (1 : Int32) σ0 m0 f0 (by omega) (by omega) (by first | with_reducible assumption | with_reducible rfl | omega | assumption | rfl) (H0.trans H.symm)
noncomputable def F_X11_tape (a1 : Int32) (a2 : Int32) (a3 : Int32) (σ : Sg) : Int32 × Sg := fb (F_X11_isTape a1 σ) (fun r2 σ1 => (if r2 = 0 then ((-1 : Int32), σ1) else (if a2 = (-1 : Int32) then fl (F_X9_becomes (52 + 2 * a1.toNatClampNeg) (-1 : Int32) (0 : Int32) σ1) (fun σ12 => ((1 : Int32), σ12)) else (if a2 < (-1 : Int32) then ((-2 : Int32), σ1) else (if (4 : Int32) < a2 then ((-2 : Int32), σ1) else (if a3 ≤ (60 : Int32) then (if 0 ≤ a3 then fl (F_X9_becomes (52 + 2 * a1.toNatClampNeg) a2 a3 σ1) (fun σ10 => ((1 : Int32), σ10)) else ((-14 : Int32), σ1)) else ((-2 : Int32), σ1)))))))
set_option maxRecDepth 100000 in
set_option maxHeartbeats 4000000 in
theorem kF_X11_tape {l : Launch} {V : Vx} {a1 : Int32} {a2 : Int32} {a3 : Int32} {σ0 : Sg} {Qk : Int32 → Sg → Prop} (m0 : XI V σ0) (h9ret : ∀ (r : Int32) (σ' : Sg), XI V σ' → FX (fun id => (53 ≤ id ∧ id ≤ 63)) (fun id k => (52 ≤ id ∧ id ≤ 62)) σ0 σ' → (F_X11_tape a1 a2 a3 σ0 = (r, σ')) → Qk r σ') : K_X11_tape l V a1 a2 a3 σ0 Qk := by
  refine e_X11_tape (fun M hl hV hN C => ?_)
  subst hl
  subst hV
  obtain ⟨R9, H0⟩ : ∃ R9, F_X11_tape a1 a2 a3 σ0 = R9 := ⟨_, rfl⟩
  have f0 : FX (fun id => (53 ≤ id ∧ id ≤ 63)) (fun id k => (52 ≤ id ∧ id ≤ 62)) σ0 σ0 := FX_rf
  have H := H0
  unfold F_X11_tape at H
  refine s_X11_tape_0 C hN  ?_
  refine kF_X11_isTape  m0   (fun r2 σ1 mσ1 cσ1 plσ1 phσ1 (pσ1_0 : (r2.toInt = 1 ∧ 0 ≤ a1.toInt ∧ a1.toInt ≤ 5) ∨ (r2.toInt = 0 ∧ (a1.toInt < 0 ∨ 5 < a1.toInt))) hσ1 => ?_)
  obtain rfl := FX_nil cσ1
  replace H := f_b hσ1 H
  refine ⟨?_, ?_⟩
  · intro q_1
    replace H := f_f q_1 H
    have b_2 : ¬ r2.toInt = 0 := fun h9 => q_1 (Int32.toInt_inj.mp h9)
    refine ⟨?_, ?_⟩
    · intro q_3
      replace H := f_f q_3 H
      have w_4 := Int32.toInt_lt a2
      have w_5 := Int32.le_toInt a2
      have b_6 : ¬ a2.toInt = (-1) := fun h9 => q_3 (Int32.toInt_inj.mp h9)
      refine ⟨?_, ?_⟩
      · intro q_7
        replace H := f_t q_7 H
        have b_8 : a2.toInt < (-1) := Int32.lt_iff_toInt_lt.mp q_7
        have z_9 : (-2 : Int32).toInt = -2 := rfl
        exact h9ret (-2 : Int32) σ0 m0 f0 (H0.trans H.symm)
      · intro q_7
        replace H := f_f q_7 H
        have b_10 : ¬ a2.toInt < (-1) := fun h9 => q_7 (Int32.lt_iff_toInt_lt.mpr h9)
        refine ⟨?_, ?_⟩
        · intro q_11
          replace H := f_t q_11 H
          have b_12 : (4 : Int) < a2.toInt := Int32.lt_iff_toInt_lt.mp q_11
          have z_13 : (-2 : Int32).toInt = -2 := rfl
          exact h9ret (-2 : Int32) σ0 m0 f0 (H0.trans H.symm)
        · intro q_11
          replace H := f_f q_11 H
          have b_14 : ¬ (4 : Int) < a2.toInt := fun h9 => q_11 (Int32.lt_iff_toInt_lt.mpr h9)
          refine ⟨?_, ?_⟩
          · intro q_15
            replace H := f_t q_15 H
            have w_16 := Int32.toInt_lt a3
            have w_17 := Int32.le_toInt a3
            have b_18 : a3.toInt ≤ 60 := Int32.le_iff_toInt_le.mp q_15
            refine ⟨?_, ?_⟩
            · intro q_19
              replace H := f_t q_19 H
              have b_20 : (0 : Int) ≤ a3.toInt := Int32.le_iff_toInt_le.mp q_19
              have w_21 := Int32.toInt_lt a1
              have w_22 := Int32.le_toInt a1
              have hv_23 : vp_in a1 6 := vp_in_iff.mpr ⟨by omega, by omega⟩
              refine ⟨hv_23, ?_⟩
              have ec_24 := cl_eq (x := a1) (by omega)
              refine kF_X9_becomes (isT_of hv_23) m0  (by omega) (by omega) (by omega) (by omega) (fun σ10 mσ10 cσ10 hσ10 => ?_)
              replace H := f_v hσ10 H
              have fσ10 : FX (fun id => (53 ≤ id ∧ id ≤ 63)) (fun id k => (52 ≤ id ∧ id ≤ 62)) σ0 σ10 := FX_tr f0 cσ10 (fun x (h9 : x = 52 + 2 * a1.toNatClampNeg + 1) => (show (53 ≤ x ∧ x ≤ 63) from ⟨by omega, by omega⟩)) (fun x k (h9 : (x = 52 + 2 * a1.toNatClampNeg ∧ k = 1) ∨ (x = 52 + 2 * a1.toNatClampNeg ∧ k = 2)) => (show ((53 ≤ x ∧ x ≤ 63)) ∨ ((52 ≤ x ∧ x ≤ 62)) from h9.elim (fun e9 => Or.inr (show (52 ≤ x ∧ x ≤ 62) from ⟨by omega, by omega⟩)) (fun h9 => Or.inr (show (52 ≤ x ∧ x ≤ 62) from ⟨by omega, by omega⟩))))
              have z_25 : (1 : Int32).toInt = 1 := rfl
              exact h9ret (1 : Int32) σ10 mσ10 fσ10 (H0.trans H.symm)
            · intro q_19
              replace H := f_f q_19 H
              have b_26 : ¬ (0 : Int) ≤ a3.toInt := fun h9 => q_19 (Int32.le_iff_toInt_le.mpr h9)
              have z_27 : (-14 : Int32).toInt = -14 := rfl
              exact h9ret (-14 : Int32) σ0 m0 f0 (H0.trans H.symm)
          · intro q_15
            replace H := f_f q_15 H
            have w_28 := Int32.toInt_lt a3
            have w_29 := Int32.le_toInt a3
            have b_30 : ¬ a3.toInt ≤ 60 := fun h9 => q_15 (Int32.le_iff_toInt_le.mpr h9)
            have z_31 : (-2 : Int32).toInt = -2 := rfl
            exact h9ret (-2 : Int32) σ0 m0 f0 (H0.trans H.symm)
    · intro q_3
      replace H := f_t q_3 H
      have w_32 := Int32.toInt_lt a2
      have w_33 := Int32.le_toInt a2
      have b_34 : a2.toInt = (-1) := congrArg Int32.toInt q_3
      have w_35 := Int32.toInt_lt a1
      have w_36 := Int32.le_toInt a1
      have hv_37 : vp_in a1 6 := vp_in_iff.mpr ⟨by omega, by omega⟩
      refine ⟨hv_37, ?_⟩
      have ec_38 := cl_eq (x := a1) (by omega)
      have z_39 : (-1 : Int32).toInt = -1 := rfl
      have z_40 : (0 : Int32).toInt = 0 := rfl
      refine kF_X9_becomes (isT_of hv_37) m0  (by omega) (by omega) (by omega) (by omega) (fun σ12 mσ12 cσ12 hσ12 => ?_)
      replace H := f_v hσ12 H
      have fσ12 : FX (fun id => (53 ≤ id ∧ id ≤ 63)) (fun id k => (52 ≤ id ∧ id ≤ 62)) σ0 σ12 := FX_tr f0 cσ12 (fun x (h9 : x = 52 + 2 * a1.toNatClampNeg + 1) => (show (53 ≤ x ∧ x ≤ 63) from ⟨by omega, by omega⟩)) (fun x k (h9 : (x = 52 + 2 * a1.toNatClampNeg ∧ k = 1) ∨ (x = 52 + 2 * a1.toNatClampNeg ∧ k = 2)) => (show ((53 ≤ x ∧ x ≤ 63)) ∨ ((52 ≤ x ∧ x ≤ 62)) from h9.elim (fun e9 => Or.inr (show (52 ≤ x ∧ x ≤ 62) from ⟨by omega, by omega⟩)) (fun h9 => Or.inr (show (52 ≤ x ∧ x ≤ 62) from ⟨by omega, by omega⟩))))
      have z_41 : (1 : Int32).toInt = 1 := rfl
      exact h9ret (1 : Int32) σ12 mσ12 fσ12 (H0.trans H.symm)
  · intro q_1
    replace H := f_t q_1 H
    have b_42 : r2.toInt = 0 := congrArg Int32.toInt q_1
    have z_43 : (-1 : Int32).toInt = -1 := rfl
    exact h9ret (-1 : Int32) σ0 m0 f0 (H0.trans H.symm)
noncomputable def F_X11_item (a1 : Int32) (a2 : Int32) (a3 : Int64) (σ : Sg) : Int32 × Sg := fb (F_X11_isTape a1 σ) (fun r2 σ1 => (if r2 = 0 then ((-1 : Int32), σ1) else fb (F_X9_isEmpty (52 + 2 * a1.toNatClampNeg) σ1) (fun r6 σ5 => (if r6 = 0 then fb (F_X9_has (52 + 2 * a1.toNatClampNeg) a2 σ5) (fun r9 σ8 => (if r9 = 0 then ((-13 : Int32), σ8) else fb (F_X9_cut (52 + 2 * a1.toNatClampNeg) a3 σ8) (fun r12 σ11 => fl (sl σ11 ((52 + 2 * a1.toNatClampNeg) + 1) a2.toNatClampNeg r12) (fun σ14 => ((1 : Int32), σ14))))) else ((-11 : Int32), σ5)))))
set_option maxRecDepth 100000 in
set_option maxHeartbeats 4000000 in
theorem kF_X11_item {l : Launch} {V : Vx} {a1 : Int32} {a2 : Int32} {a3 : Int64} {σ0 : Sg} {Qk : Int32 → Sg → Prop} (m0 : XI V σ0) (h9ret : ∀ (r : Int32) (σ' : Sg), XI V σ' → FX (fun id => (53 ≤ id ∧ id ≤ 63)) (fun _ _ => False) σ0 σ' → (F_X11_item a1 a2 a3 σ0 = (r, σ')) → Qk r σ') : K_X11_item l V a1 a2 a3 σ0 Qk := by
  refine e_X11_item (fun M hl hV hN C => ?_)
  subst hl
  subst hV
  obtain ⟨R9, H0⟩ : ∃ R9, F_X11_item a1 a2 a3 σ0 = R9 := ⟨_, rfl⟩
  have f0 : FX (fun id => (53 ≤ id ∧ id ≤ 63)) (fun _ _ => False) σ0 σ0 := FX_rf
  have H := H0
  unfold F_X11_item at H
  refine s_X11_item_0 C hN  ?_
  refine kF_X11_isTape  m0   (fun r2 σ1 mσ1 cσ1 plσ1 phσ1 (pσ1_0 : (r2.toInt = 1 ∧ 0 ≤ a1.toInt ∧ a1.toInt ≤ 5) ∨ (r2.toInt = 0 ∧ (a1.toInt < 0 ∨ 5 < a1.toInt))) hσ1 => ?_)
  obtain rfl := FX_nil cσ1
  replace H := f_b hσ1 H
  refine ⟨?_, ?_⟩
  · intro q_1
    replace H := f_f q_1 H
    have b_2 : ¬ r2.toInt = 0 := fun h9 => q_1 (Int32.toInt_inj.mp h9)
    have w_3 := Int32.toInt_lt a1
    have w_4 := Int32.le_toInt a1
    have hv_5 : vp_in a1 6 := vp_in_iff.mpr ⟨by omega, by omega⟩
    refine ⟨hv_5, ?_⟩
    have ec_6 := cl_eq (x := a1) (by omega)
    refine kF_X9_isEmpty (isT_of hv_5) m0   (fun r6 σ5 mσ5 cσ5 plσ5 phσ5 hσ5 => ?_)
    obtain rfl := FX_nil cσ5
    replace H := f_b hσ5 H
    refine ⟨?_, ?_⟩
    · intro q_7
      replace H := f_t q_7 H
      have b_8 : r6.toInt = 0 := congrArg Int32.toInt q_7
      have tz_9 := XI_c1 m0 (lim_T0_2 (isT_of hv_5))
      refine kF_X9_has (isT_of hv_5) m0   (fun r9 σ8 mσ8 cσ8 plσ8 phσ8 (pσ8_0 : (r9.toInt = 1 ∧ 0 ≤ a2.toInt ∧ a2.toInt < (gi σ0 (52 + 2 * a1.toNatClampNeg) 2).toInt) ∨ r9.toInt = 0) hσ8 => ?_)
      obtain rfl := FX_nil cσ8
      replace H := f_b hσ8 H
      refine ⟨?_, ?_⟩
      · intro q_10
        replace H := f_f q_10 H
        have b_11 : ¬ r9.toInt = 0 := fun h9 => q_10 (Int32.toInt_inj.mp h9)
        refine kF_X9_cut (isT_of hv_5) m0   (fun r12 σ11 mσ11 cσ11 hσ11 => ?_)
        obtain rfl := FX_nil cσ11
        replace H := f_b hσ11 H
        have w_12 := Int32.toInt_lt a2
        have w_13 := Int32.le_toInt a2
        have hv_14 : vp_in a2 60 := vp_in_iff.mpr ⟨by omega, by omega⟩
        refine ⟨hv_14, ?_⟩
        intro σ14 eσ14
        replace H := f_l eσ14 H
        have mσ14 : XI (mV M) σ14 := by rw [eσ14]; exact XIs_l m0
        have fσ14 : FX (fun id => (53 ≤ id ∧ id ≤ 63)) (fun _ _ => False) σ0 σ14 := by rw [eσ14]; exact FX_sl f0 ((show (53 ≤ 52 + 2 * a1.toNatClampNeg + 1 ∧ 52 + 2 * a1.toNatClampNeg + 1 ≤ 63) from ⟨by omega, by omega⟩))
        have z_15 : (1 : Int32).toInt = 1 := rfl
        exact h9ret (1 : Int32) σ14 mσ14 fσ14 (H0.trans H.symm)
      · intro q_10
        replace H := f_t q_10 H
        have b_16 : r9.toInt = 0 := congrArg Int32.toInt q_10
        have z_17 : (-13 : Int32).toInt = -13 := rfl
        exact h9ret (-13 : Int32) σ0 m0 f0 (H0.trans H.symm)
    · intro q_7
      replace H := f_f q_7 H
      have b_18 : ¬ r6.toInt = 0 := fun h9 => q_7 (Int32.toInt_inj.mp h9)
      have z_19 : (-11 : Int32).toInt = -11 := rfl
      exact h9ret (-11 : Int32) σ0 m0 f0 (H0.trans H.symm)
  · intro q_1
    replace H := f_t q_1 H
    have b_20 : r2.toInt = 0 := congrArg Int32.toInt q_1
    have z_21 : (-1 : Int32).toInt = -1 := rfl
    exact h9ret (-1 : Int32) σ0 m0 f0 (H0.trans H.symm)
noncomputable def F_X11_read (a1 : Int32) (a2 : Int32) (σ : Sg) : Int64 × Sg := fb (F_X11_isTape a1 σ) (fun r2 σ1 => (if r2 = 0 then ((-9223372036854775808 : Int64), σ1) else fb (F_X9_has (52 + 2 * a1.toNatClampNeg) a2 σ1) (fun r6 σ5 => (if r6 = 0 then ((-9223372036854775808 : Int64), σ5) else (gl σ5 ((52 + 2 * a1.toNatClampNeg) + 1) a2.toNatClampNeg, σ5)))))
set_option maxRecDepth 100000 in
set_option maxHeartbeats 4000000 in
theorem kF_X11_read {l : Launch} {V : Vx} {a1 : Int32} {a2 : Int32} {σ0 : Sg} {Qk : Int64 → Sg → Prop} (m0 : XI V σ0) (h9ret : ∀ (r : Int64) (σ' : Sg), XI V σ' → FX (fun id => False) (fun _ _ => False) σ0 σ' → (F_X11_read a1 a2 σ0 = (r, σ')) → Qk r σ') : K_X11_read l V a1 a2 σ0 Qk := by
  refine e_X11_read (fun M hl hV hN C => ?_)
  subst hl
  subst hV
  obtain ⟨R9, H0⟩ : ∃ R9, F_X11_read a1 a2 σ0 = R9 := ⟨_, rfl⟩
  have f0 : FX (fun id => False) (fun _ _ => False) σ0 σ0 := FX_rf
  have H := H0
  unfold F_X11_read at H
  refine s_X11_read_0 C hN  ?_
  refine kF_X11_isTape  m0   (fun r2 σ1 mσ1 cσ1 plσ1 phσ1 (pσ1_0 : (r2.toInt = 1 ∧ 0 ≤ a1.toInt ∧ a1.toInt ≤ 5) ∨ (r2.toInt = 0 ∧ (a1.toInt < 0 ∨ 5 < a1.toInt))) hσ1 => ?_)
  obtain rfl := FX_nil cσ1
  replace H := f_b hσ1 H
  refine ⟨?_, ?_⟩
  · intro q_1
    replace H := f_t q_1 H
    have b_2 : r2.toInt = 0 := congrArg Int32.toInt q_1
    exact h9ret (-9223372036854775808 : Int64) σ0 m0 f0 (H0.trans H.symm)
  · intro q_1
    replace H := f_f q_1 H
    have b_3 : ¬ r2.toInt = 0 := fun h9 => q_1 (Int32.toInt_inj.mp h9)
    have w_4 := Int32.toInt_lt a1
    have w_5 := Int32.le_toInt a1
    have hv_6 : vp_in a1 6 := vp_in_iff.mpr ⟨by omega, by omega⟩
    refine ⟨hv_6, ?_⟩
    have ec_7 := cl_eq (x := a1) (by omega)
    have tz_8 := XI_c1 m0 (lim_T0_2 (isT_of hv_6))
    refine kF_X9_has (isT_of hv_6) m0   (fun r6 σ5 mσ5 cσ5 plσ5 phσ5 (pσ5_0 : (r6.toInt = 1 ∧ 0 ≤ a2.toInt ∧ a2.toInt < (gi σ0 (52 + 2 * a1.toNatClampNeg) 2).toInt) ∨ r6.toInt = 0) hσ5 => ?_)
    obtain rfl := FX_nil cσ5
    replace H := f_b hσ5 H
    refine ⟨?_, ?_⟩
    · intro q_9
      replace H := f_t q_9 H
      have b_10 : r6.toInt = 0 := congrArg Int32.toInt q_9
      exact h9ret (-9223372036854775808 : Int64) σ0 m0 f0 (H0.trans H.symm)
    · intro q_9
      replace H := f_f q_9 H
      have b_11 : ¬ r6.toInt = 0 := fun h9 => q_9 (Int32.toInt_inj.mp h9)
      refine ⟨hv_6, ?_⟩
      have ec_12 := cl_eq (x := a1) (by omega)
      have w_13 := Int32.toInt_lt a2
      have w_14 := Int32.le_toInt a2
      have hv_15 : vp_in a2 60 := vp_in_iff.mpr ⟨by omega, by omega⟩
      refine ⟨hv_15, ?_⟩
      exact h9ret (gl σ0 ((52 + 2 * a1.toNatClampNeg) + 1) a2.toNatClampNeg) σ0 m0 f0 (H0.trans H.symm)
noncomputable def F_X11_shift (a1 : Int32) (a2 : Int32) (a3 : Int32) (a4 : Int32) (a5 : Int32) (σ : Sg) : Int32 × Sg := fb (F_X11_isTape a1 σ) (fun r2 σ1 => (if r2 = 0 then ((-1 : Int32), σ1) else fb (F_X11_isTape a3 σ1) (fun r5 σ4 => (if r5 = 0 then ((-1 : Int32), σ4) else fb (F_X9_isEmpty (52 + 2 * a1.toNatClampNeg) σ4) (fun r10 σ9 => (if r10 = 0 then fb (F_X9_isEmpty (52 + 2 * a3.toNatClampNeg) σ9) (fun r13 σ12 => (if r13 = 0 then (if (gi σ12 (52 + 2 * a1.toNatClampNeg) 1) = (gi σ12 (52 + 2 * a3.toNatClampNeg) 1) then fb (F_X9_hasPart (52 + 2 * a1.toNatClampNeg) a2 a5 σ12) (fun r17 σ16 => (if r17 = 0 then ((-13 : Int32), σ16) else fb (F_X9_hasPart (52 + 2 * a3.toNatClampNeg) a4 a5 σ16) (fun r20 σ19 => (if r20 = 0 then ((-13 : Int32), σ19) else fl (sla σ19 ((52 + 2 * a3.toNatClampNeg) + 1) (va_cpy (σ19.2.1 ((52 + 2 * a1.toNatClampNeg) + 1)) (σ19.2.1 ((52 + 2 * a3.toNatClampNeg) + 1)) a2.toNatClampNeg a4.toNatClampNeg a5.toNatClampNeg)) (fun σ22 => (a5, σ22)))))) else ((-12 : Int32), σ12)) else ((-11 : Int32), σ12))) else ((-11 : Int32), σ9)))))))
set_option maxRecDepth 100000 in
set_option maxHeartbeats 4000000 in
theorem kF_X11_shift {l : Launch} {V : Vx} {a1 : Int32} {a2 : Int32} {a3 : Int32} {a4 : Int32} {a5 : Int32} {σ0 : Sg} {Qk : Int32 → Sg → Prop} (m0 : XI V σ0) (h9ret : ∀ (r : Int32) (σ' : Sg), XI V σ' → FX (fun id => (53 ≤ id ∧ id ≤ 63)) (fun _ _ => False) σ0 σ' → (F_X11_shift a1 a2 a3 a4 a5 σ0 = (r, σ')) → Qk r σ') : K_X11_shift l V a1 a2 a3 a4 a5 σ0 Qk := by
  refine e_X11_shift (fun M hl hV hN C => ?_)
  subst hl
  subst hV
  obtain ⟨R9, H0⟩ : ∃ R9, F_X11_shift a1 a2 a3 a4 a5 σ0 = R9 := ⟨_, rfl⟩
  have f0 : FX (fun id => (53 ≤ id ∧ id ≤ 63)) (fun _ _ => False) σ0 σ0 := FX_rf
  have H := H0
  unfold F_X11_shift at H
  refine s_X11_shift_0 C hN  ?_
  refine kF_X11_isTape  m0   (fun r2 σ1 mσ1 cσ1 plσ1 phσ1 (pσ1_0 : (r2.toInt = 1 ∧ 0 ≤ a1.toInt ∧ a1.toInt ≤ 5) ∨ (r2.toInt = 0 ∧ (a1.toInt < 0 ∨ 5 < a1.toInt))) hσ1 => ?_)
  obtain rfl := FX_nil cσ1
  replace H := f_b hσ1 H
  refine ⟨?_, ?_⟩
  · intro q_1
    replace H := f_t q_1 H
    have b_2 : r2.toInt = 0 := congrArg Int32.toInt q_1
    have z_3 : (-1 : Int32).toInt = -1 := rfl
    exact h9ret (-1 : Int32) σ0 m0 f0 (H0.trans H.symm)
  · intro q_1
    replace H := f_f q_1 H
    have b_4 : ¬ r2.toInt = 0 := fun h9 => q_1 (Int32.toInt_inj.mp h9)
    refine kF_X11_isTape  m0   (fun r5 σ4 mσ4 cσ4 plσ4 phσ4 (pσ4_0 : (r5.toInt = 1 ∧ 0 ≤ a3.toInt ∧ a3.toInt ≤ 5) ∨ (r5.toInt = 0 ∧ (a3.toInt < 0 ∨ 5 < a3.toInt))) hσ4 => ?_)
    obtain rfl := FX_nil cσ4
    replace H := f_b hσ4 H
    refine ⟨?_, ?_⟩
    · intro q_5
      replace H := f_f q_5 H
      have b_6 : ¬ r5.toInt = 0 := fun h9 => q_5 (Int32.toInt_inj.mp h9)
      have w_7 := Int32.toInt_lt a1
      have w_8 := Int32.le_toInt a1
      have hv_9 : vp_in a1 6 := vp_in_iff.mpr ⟨by omega, by omega⟩
      refine ⟨hv_9, ?_⟩
      have ec_10 := cl_eq (x := a1) (by omega)
      have w_11 := Int32.toInt_lt a3
      have w_12 := Int32.le_toInt a3
      have hv_13 : vp_in a3 6 := vp_in_iff.mpr ⟨by omega, by omega⟩
      refine ⟨hv_13, ?_⟩
      have ec_14 := cl_eq (x := a3) (by omega)
      refine kF_X9_isEmpty (isT_of hv_9) m0   (fun r10 σ9 mσ9 cσ9 plσ9 phσ9 hσ9 => ?_)
      obtain rfl := FX_nil cσ9
      replace H := f_b hσ9 H
      refine ⟨?_, ?_⟩
      · intro q_15
        replace H := f_f q_15 H
        have b_16 : ¬ r10.toInt = 0 := fun h9 => q_15 (Int32.toInt_inj.mp h9)
        have z_17 : (-11 : Int32).toInt = -11 := rfl
        exact h9ret (-11 : Int32) σ0 m0 f0 (H0.trans H.symm)
      · intro q_15
        replace H := f_t q_15 H
        have b_18 : r10.toInt = 0 := congrArg Int32.toInt q_15
        refine kF_X9_isEmpty (isT_of hv_13) m0   (fun r13 σ12 mσ12 cσ12 plσ12 phσ12 hσ12 => ?_)
        obtain rfl := FX_nil cσ12
        replace H := f_b hσ12 H
        refine ⟨?_, ?_⟩
        · intro q_19
          replace H := f_t q_19 H
          have b_20 : r13.toInt = 0 := congrArg Int32.toInt q_19
          refine ⟨?_, ?_⟩
          · intro q_21
            replace H := f_t q_21 H
            have b_22 : (gi σ0 (52 + (2 * a1.toNatClampNeg)) 1).toInt = (gi σ0 (52 + (2 * a3.toNatClampNeg)) 1).toInt := congrArg Int32.toInt q_21
            have tz_23 := XI_c1 m0 (lim_T0_2 (isT_of hv_9))
            refine kF_X9_hasPart (isT_of hv_9) m0   (fun r17 σ16 mσ16 cσ16 plσ16 phσ16 (pσ16_0 : (r17.toInt = 1 ∧ 0 ≤ a2.toInt ∧ 0 ≤ a5.toInt ∧ a2.toInt + a5.toInt ≤ (gi σ0 (52 + 2 * a1.toNatClampNeg) 2).toInt) ∨ r17.toInt = 0) hσ16 => ?_)
            obtain rfl := FX_nil cσ16
            replace H := f_b hσ16 H
            refine ⟨?_, ?_⟩
            · intro q_24
              replace H := f_t q_24 H
              have b_25 : r17.toInt = 0 := congrArg Int32.toInt q_24
              have z_26 : (-13 : Int32).toInt = -13 := rfl
              exact h9ret (-13 : Int32) σ0 m0 f0 (H0.trans H.symm)
            · intro q_24
              replace H := f_f q_24 H
              have b_27 : ¬ r17.toInt = 0 := fun h9 => q_24 (Int32.toInt_inj.mp h9)
              have tz_28 := XI_c1 m0 (lim_T0_2 (isT_of hv_13))
              refine kF_X9_hasPart (isT_of hv_13) m0   (fun r20 σ19 mσ19 cσ19 plσ19 phσ19 (pσ19_0 : (r20.toInt = 1 ∧ 0 ≤ a4.toInt ∧ 0 ≤ a5.toInt ∧ a4.toInt + a5.toInt ≤ (gi σ0 (52 + 2 * a3.toNatClampNeg) 2).toInt) ∨ r20.toInt = 0) hσ19 => ?_)
              obtain rfl := FX_nil cσ19
              replace H := f_b hσ19 H
              refine ⟨?_, ?_⟩
              · intro q_29
                replace H := f_f q_29 H
                have b_30 : ¬ r20.toInt = 0 := fun h9 => q_29 (Int32.toInt_inj.mp h9)
                have w_31 := Int32.toInt_lt a2
                have w_32 := Int32.le_toInt a2
                have w_33 := Int32.toInt_lt a4
                have w_34 := Int32.le_toInt a4
                have w_35 := Int32.toInt_lt a5
                have w_36 := Int32.le_toInt a5
                have z_37 := cl_eq (x := a2) (by first | decide | omega)
                have z_38 := cl_eq (x := a4) (by first | decide | omega)
                have z_39 := cl_eq (x := a5) (by first | decide | omega)
                refine ⟨⟨(fun h9 => by have h8 := Int32.lt_iff_toInt_lt.mp h9; have h7 : (0 : Int32).toInt = 0 := rfl; omega), (fun h9 => by have h8 := Int32.lt_iff_toInt_lt.mp h9; have h7 : (0 : Int32).toInt = 0 := rfl; omega), (fun h9 => by have h8 := Int32.lt_iff_toInt_lt.mp h9; have h7 : (0 : Int32).toInt = 0 := rfl; omega), by omega, by omega⟩, ?_⟩
                intro σ22 eσ22
                replace H := f_l eσ22 H
                have mσ22 : XI (mV M) σ22 := by rw [eσ22]; exact XIs_la m0
                have fσ22 : FX (fun id => (53 ≤ id ∧ id ≤ 63)) (fun _ _ => False) σ0 σ22 := by rw [eσ22]; exact FX_sla f0 ((show (53 ≤ 52 + 2 * a3.toNatClampNeg + 1 ∧ 52 + 2 * a3.toNatClampNeg + 1 ≤ 63) from ⟨by omega, by omega⟩))
                have k_40 : (gi σ22 (52 + 2 * a1.toNatClampNeg) 1).toInt = (gi σ0 (52 + 2 * a1.toNatClampNeg) 1).toInt := by rw [eσ22]; rfl
                have k_41 : (gi σ22 (52 + 2 * a3.toNatClampNeg) 1).toInt = (gi σ0 (52 + 2 * a3.toNatClampNeg) 1).toInt := by rw [eσ22]; rfl
                exact h9ret a5 σ22 mσ22 fσ22 (H0.trans H.symm)
              · intro q_29
                replace H := f_t q_29 H
                have b_42 : r20.toInt = 0 := congrArg Int32.toInt q_29
                have z_43 : (-13 : Int32).toInt = -13 := rfl
                exact h9ret (-13 : Int32) σ0 m0 f0 (H0.trans H.symm)
          · intro q_21
            replace H := f_f q_21 H
            have b_44 : ¬ (gi σ0 (52 + (2 * a1.toNatClampNeg)) 1).toInt = (gi σ0 (52 + (2 * a3.toNatClampNeg)) 1).toInt := fun h9 => q_21 (Int32.toInt_inj.mp h9)
            have z_45 : (-12 : Int32).toInt = -12 := rfl
            exact h9ret (-12 : Int32) σ0 m0 f0 (H0.trans H.symm)
        · intro q_19
          replace H := f_f q_19 H
          have b_46 : ¬ r13.toInt = 0 := fun h9 => q_19 (Int32.toInt_inj.mp h9)
          have z_47 : (-11 : Int32).toInt = -11 := rfl
          exact h9ret (-11 : Int32) σ0 m0 f0 (H0.trans H.symm)
    · intro q_5
      replace H := f_t q_5 H
      have b_48 : r5.toInt = 0 := congrArg Int32.toInt q_5
      have z_49 : (-1 : Int32).toInt = -1 := rfl
      exact h9ret (-1 : Int32) σ0 m0 f0 (H0.trans H.symm)
noncomputable def F_X12_in (a1 : Int32) (a2 : Int32) (a3 : Int32) (σ : Sg) : Int32 × Sg := (if a1 < a2 then ((0 : Int32), σ) else (if a3 < a1 then ((0 : Int32), σ) else ((1 : Int32), σ)))
set_option maxRecDepth 100000 in
set_option maxHeartbeats 4000000 in
theorem kF_X12_in {l : Launch} {V : Vx} {a1 : Int32} {a2 : Int32} {a3 : Int32} {σ0 : Sg} {Qk : Int32 → Sg → Prop} (m0 : MI σ0) (h9ret : ∀ (r : Int32) (σ' : Sg), MI σ' → Fr [] [] σ0 σ' → (0 ≤ r.toInt) → (r.toInt ≤ 1) → ((r.toInt = 1 ∧ a2.toInt ≤ a1.toInt ∧ a1.toInt ≤ a3.toInt) ∨ (r.toInt = 0 ∧ (a1.toInt < a2.toInt ∨ a3.toInt < a1.toInt))) → (F_X12_in a1 a2 a3 σ0 = (r, σ')) → Qk r σ') : K_X12_in l V a1 a2 a3 σ0 Qk := by
  refine e_X12_in (fun M hl hV hN C => ?_)
  subst hl
  subst hV
  obtain ⟨R9, H0⟩ : ∃ R9, F_X12_in a1 a2 a3 σ0 = R9 := ⟨_, rfl⟩
  have f0 : Fr [] [] σ0 σ0 := Fr_rf
  have H := H0
  unfold F_X12_in at H
  refine s_X12_in_0 C hN ?_
  refine ⟨?_, ?_⟩
  · intro q_1
    replace H := f_t q_1 H
    have w_2 := Int32.toInt_lt a1
    have w_3 := Int32.le_toInt a1
    have w_4 := Int32.toInt_lt a2
    have w_5 := Int32.le_toInt a2
    have b_6 : a1.toInt < a2.toInt := Int32.lt_iff_toInt_lt.mp q_1
    have z_7 : (0 : Int32).toInt = 0 := rfl
    exact h9ret (0 : Int32) σ0 m0 f0 (by omega) (by omega) (by first | with_reducible assumption | with_reducible rfl | omega | assumption | rfl) (H0.trans H.symm)
  · intro q_1
    replace H := f_f q_1 H
    have w_8 := Int32.toInt_lt a1
    have w_9 := Int32.le_toInt a1
    have w_10 := Int32.toInt_lt a2
    have w_11 := Int32.le_toInt a2
    have b_12 : ¬ a1.toInt < a2.toInt := fun h9 => q_1 (Int32.lt_iff_toInt_lt.mpr h9)
    refine ⟨?_, ?_⟩
    · intro q_13
      replace H := f_t q_13 H
      have w_14 := Int32.toInt_lt a3
      have w_15 := Int32.le_toInt a3
      have b_16 : a3.toInt < a1.toInt := Int32.lt_iff_toInt_lt.mp q_13
      have z_17 : (0 : Int32).toInt = 0 := rfl
      exact h9ret (0 : Int32) σ0 m0 f0 (by omega) (by omega) (by first | with_reducible assumption | with_reducible rfl | omega | assumption | rfl) (H0.trans H.symm)
    · intro q_13
      replace H := f_f q_13 H
      have w_18 := Int32.toInt_lt a3
      have w_19 := Int32.le_toInt a3
      have b_20 : ¬ a3.toInt < a1.toInt := fun h9 => q_13 (Int32.lt_iff_toInt_lt.mpr h9)
      have z_21 : (1 : Int32).toInt = 1 := rfl
      exact h9ret (1 : Int32) σ0 m0 f0 (by omega) (by omega) (by first | with_reducible assumption | with_reducible rfl | omega | assumption | rfl) (H0.trans H.symm)
noncomputable def F_X12_isTape (a1 : Int32) (σ : Sg) : Int32 × Sg := fb (F_X12_in a1 (0 : Int32) (5 : Int32) σ) (fun r2 σ1 => (r2, σ1))
set_option maxRecDepth 100000 in
set_option maxHeartbeats 4000000 in
theorem kF_X12_isTape {l : Launch} {V : Vx} {a1 : Int32} {σ0 : Sg} {Qk : Int32 → Sg → Prop} (m0 : MI σ0) (h9ret : ∀ (r : Int32) (σ' : Sg), MI σ' → Fr [] [] σ0 σ' → (0 ≤ r.toInt) → (r.toInt ≤ 1) → ((r.toInt = 1 ∧ 0 ≤ a1.toInt ∧ a1.toInt ≤ 5) ∨ (r.toInt = 0 ∧ (a1.toInt < 0 ∨ 5 < a1.toInt))) → (F_X12_isTape a1 σ0 = (r, σ')) → Qk r σ') : K_X12_isTape l V a1 σ0 Qk := by
  refine e_X12_isTape (fun M hl hV hN C => ?_)
  subst hl
  subst hV
  obtain ⟨R9, H0⟩ : ∃ R9, F_X12_isTape a1 σ0 = R9 := ⟨_, rfl⟩
  have f0 : Fr [] [] σ0 σ0 := Fr_rf
  have H := H0
  unfold F_X12_isTape at H
  refine s_X12_isTape_0 C hN ?_
  refine kF_X12_in m0  (fun r2 σ1 mσ1 cσ1 plσ1 phσ1 (pσ1_0 : (r2.toInt = 1 ∧ (0 : Int) ≤ a1.toInt ∧ a1.toInt ≤ (5 : Int)) ∨ (r2.toInt = 0 ∧ (a1.toInt < (0 : Int) ∨ (5 : Int) < a1.toInt))) hσ1 => ?_)
  obtain rfl := Fr_nil cσ1
  replace H := f_b hσ1 H
  refine ⟨i_bool (by omega) (by omega), ?_⟩
  exact h9ret r2 σ0 m0 f0 (by omega) (by omega) (by first | with_reducible assumption | with_reducible rfl | omega | assumption | rfl) (H0.trans H.symm)
noncomputable def F_X12_narrow (a1 : Int32) (a2 : Int64) (σ : Sg) : Int64 × Sg := (if a1 = 0 then (a2.toInt32.toInt8.toInt32.toInt64, σ) else (if a1 = (1 : Int32) then (a2.toInt32.toInt16.toInt32.toInt64, σ) else (if a1 = (2 : Int32) then (a2.toInt32.toInt64, σ) else (if a1 = (4 : Int32) then (if (lg_cmp a2 (0 : Int64)) = 0 then ((0 : Int64), σ) else ((1 : Int64), σ)) else (a2, σ)))))
set_option maxRecDepth 100000 in
set_option maxHeartbeats 4000000 in
theorem kF_X12_narrow {l : Launch} {V : Vx} {a1 : Int32} {a2 : Int64} {σ0 : Sg} {Qk : Int64 → Sg → Prop} (m0 : MI σ0) (h9ret : ∀ (r : Int64) (σ' : Sg), MI σ' → Fr [] [] σ0 σ' → (F_X12_narrow a1 a2 σ0 = (r, σ')) → Qk r σ') : K_X12_narrow l V a1 a2 σ0 Qk := by
  refine e_X12_narrow (fun M hl hV hN C => ?_)
  subst hl
  subst hV
  obtain ⟨R9, H0⟩ : ∃ R9, F_X12_narrow a1 a2 σ0 = R9 := ⟨_, rfl⟩
  have f0 : Fr [] [] σ0 σ0 := Fr_rf
  have H := H0
  unfold F_X12_narrow at H
  refine s_X12_narrow_0 C hN ?_
  refine ⟨?_, ?_⟩
  · intro q_1
    replace H := f_f q_1 H
    have w_2 := Int32.toInt_lt a1
    have w_3 := Int32.le_toInt a1
    have b_4 : ¬ a1.toInt = 0 := fun h9 => q_1 (Int32.toInt_inj.mp h9)
    refine ⟨?_, ?_⟩
    · intro q_5
      replace H := f_f q_5 H
      have b_6 : ¬ a1.toInt = 1 := fun h9 => q_5 (Int32.toInt_inj.mp h9)
      refine ⟨?_, ?_⟩
      · intro q_7
        replace H := f_f q_7 H
        have b_8 : ¬ a1.toInt = 2 := fun h9 => q_7 (Int32.toInt_inj.mp h9)
        refine ⟨?_, ?_⟩
        · intro q_9
          replace H := f_f q_9 H
          have b_10 : ¬ a1.toInt = 4 := fun h9 => q_9 (Int32.toInt_inj.mp h9)
          exact h9ret a2 σ0 m0 f0 (H0.trans H.symm)
        · intro q_9
          replace H := f_t q_9 H
          have b_11 : a1.toInt = 4 := congrArg Int32.toInt q_9
          refine ⟨?_, ?_⟩
          · intro q_12
            replace H := f_t q_12 H
            exact h9ret (0 : Int64) σ0 m0 f0 (H0.trans H.symm)
          · intro q_12
            replace H := f_f q_12 H
            exact h9ret (1 : Int64) σ0 m0 f0 (H0.trans H.symm)
      · intro q_7
        replace H := f_t q_7 H
        have b_13 : a1.toInt = 2 := congrArg Int32.toInt q_7
        exact h9ret a2.toInt32.toInt64 σ0 m0 f0 (H0.trans H.symm)
    · intro q_5
      replace H := f_t q_5 H
      have b_14 : a1.toInt = 1 := congrArg Int32.toInt q_5
      exact h9ret a2.toInt32.toInt16.toInt32.toInt64 σ0 m0 f0 (H0.trans H.symm)
  · intro q_1
    replace H := f_t q_1 H
    have w_15 := Int32.toInt_lt a1
    have w_16 := Int32.le_toInt a1
    have b_17 : a1.toInt = 0 := congrArg Int32.toInt q_1
    exact h9ret a2.toInt32.toInt8.toInt32.toInt64 σ0 m0 f0 (H0.trans H.symm)
noncomputable def LB_X12_tape_44 (rec : Nat → Int32 → Int32 → Int32 → Int32 → Sg → Int32 × Sg) (x1 : Int32) (x2 : Int32) (x3 : Int32) (σ : Sg) : Int32 × Sg := fl (si σ 171 x1.toNatClampNeg x2) (fun σ2 => (if 0 ≤ x2 then fl (si σ2 172 x1.toNatClampNeg x3) (fun σ5 => rec 1 x1 0 0 (0 : Int32) σ5) else fl (si σ2 172 x1.toNatClampNeg (0 : Int32)) (fun σ7 => rec 1 x1 0 0 (0 : Int32) σ7)))
noncomputable def LB_X12_tape_69 (rec : Nat → Int32 → Int32 → Int32 → Int32 → Sg → Int32 × Sg) (x1 : Int32) (x4 : Int32) (σ : Sg) : Int32 × Sg := (if (60 : Int32) ≤ x4 then ((1 : Int32), σ) else fl (sl σ 173 (((60 : Int32) * x1) + x4).toNatClampNeg (0 : Int64)) (fun σ3 => fl (x4 + 1) (fun v4 => rec 1 x1 0 0 v4 σ3)))
noncomputable def LF_X12_tape : Nat → Nat → Int32 → Int32 → Int32 → Int32 → Sg → Int32 × Sg
  | 0, _, _, _, _, _, σ => (0, σ)
  | n + 1, 0, x1, x2, x3, _, σ => LB_X12_tape_44 (LF_X12_tape n) x1 x2 x3 σ
  | n + 1, 1, x1, _, _, x4, σ => LB_X12_tape_69 (LF_X12_tape n) x1 x4 σ
  | _ + 1, _ + 2, _, _, _, _, σ => (0, σ)
noncomputable def F_X12_tape (a1 : Int32) (a2 : Int32) (a3 : Int32) (σ : Sg) : Int32 × Sg := fb (F_X12_isTape a1 σ) (fun r2 σ1 => (if r2 = 0 then ((-1 : Int32), σ1) else fb (F_X12_in a2 (-1 : Int32) (4 : Int32) σ1) (fun r5 σ4 => (if r5 = 0 then ((-2 : Int32), σ4) else (if a2 < 0 then (if a2 < 0 then LF_X12_tape 200 0 a1 a2 a3 0 σ4 else (if 0 ≤ a3 then LF_X12_tape 200 0 a1 a2 a3 0 σ4 else ((-14 : Int32), σ4))) else (if a3 ≤ (60 : Int32) then (if a2 < 0 then LF_X12_tape 200 0 a1 a2 a3 0 σ4 else (if 0 ≤ a3 then LF_X12_tape 200 0 a1 a2 a3 0 σ4 else ((-14 : Int32), σ4))) else ((-2 : Int32), σ4)))))))
set_option maxRecDepth 100000 in
set_option maxHeartbeats 4000000 in
theorem kF_X12_tape {l : Launch} {V : Vx} {a1 : Int32} {a2 : Int32} {a3 : Int32} {σ0 : Sg} {Qk : Int32 → Sg → Prop} (m0 : MI σ0) (h9ret : ∀ (r : Int32) (σ' : Sg), MI σ' → Fr [171, 172, 173] [] σ0 σ' → (F_X12_tape a1 a2 a3 σ0 = (r, σ')) → Qk r σ') : K_X12_tape l V a1 a2 a3 σ0 Qk := by
  refine e_X12_tape (fun M hl hV hN C => ?_)
  subst hl
  subst hV
  obtain ⟨R9, H0⟩ : ∃ R9, F_X12_tape a1 a2 a3 σ0 = R9 := ⟨_, rfl⟩
  have T : ∀ n : Nat, (∀ (x1 : Int32) (x2 : Int32) (x3 : Int32) (σ : Sg), MI σ → Fr [171, 172, 173] [] σ0 σ → (0 ≤ x1.toInt) → (x1.toInt ≤ 5) → (-1 ≤ x2.toInt) → (x2.toInt ≤ 4) → (x2.toInt < 0 ∨ (0 ≤ x3.toInt ∧ x3.toInt ≤ 60)) → (LF_X12_tape n 0 x1 x2 x3 0 σ = R9) → 100 < n → PS M 44 [(0, .ref 74), (1, .int x1), (2, .int x2), (3, .int x3)] [] σ (0, 0)) ∧ (∀ (x1 : Int32) (x4 : Int32) (σ : Sg), MI σ → Fr [171, 172, 173] [] σ0 σ → (0 ≤ x1.toInt) → (x1.toInt ≤ 5) → (0 ≤ x4.toInt) → (x4.toInt ≤ 60) → (LF_X12_tape n 1 x1 0 0 x4 σ = R9) → (61 - x4.toInt).toNat < n → PS M 69 [(0, .ref 74), (1, .int x1), (4, .int x4)] [] σ (0, 0)) := by
    intro n
    induction n with
    | zero => exact ⟨fun _ _ _ _ _ _ _ _ _ _ _ _ h8 => absurd h8 (Nat.not_lt_zero _), fun _ _ _ _ _ _ _ _ _ _ h8 => absurd h8 (Nat.not_lt_zero _)⟩
    | succ n ih =>
      obtain ⟨ih44, ih69⟩ := ih
      refine ⟨?_, ?_⟩
      · intro x1 x2 x3 σ mσ fσ lx1 ux1 lx2 ux2 i0 H hmu
        replace H : LB_X12_tape_44 (LF_X12_tape n) x1 x2 x3 σ = R9 := H
        unfold LB_X12_tape_44 at H
        refine s_X12_tape_44 C hN ?_
        have hv_1 : vp_in x1 6 := vp_in_iff.mpr ⟨by omega, by omega⟩
        refine ⟨hv_1, ?_⟩
        intro σ2 eσ2
        replace H := f_l eσ2 H
        have mσ2 : MI σ2 := by rw [eσ2]; exact MIs_a171 mσ (by omega) (by omega)
        have fσ2 : Fr [171, 172, 173] [] σ0 σ2 := by rw [eσ2]; exact Fr_si fσ (by decide +kernel) (fun h9 => absurd h9 (by decide +kernel))
        refine ⟨?_, ?_⟩
        · intro q_2
          replace H := f_t q_2 H
          have b_3 : (0 : Int) ≤ x2.toInt := Int32.le_iff_toInt_le.mp q_2
          refine ⟨hv_1, ?_⟩
          intro σ5 eσ5
          replace H := f_l eσ5 H
          have w_4 := Int32.toInt_lt x3
          have w_5 := Int32.le_toInt x3
          have mσ5 : MI σ5 := by rw [eσ5]; exact MIs_a172 mσ2 (by omega) (by omega)
          have fσ5 : Fr [171, 172, 173] [] σ0 σ5 := by rw [eσ5]; exact Fr_si fσ2 (by decide +kernel) (fun h9 => absurd h9 (by decide +kernel))
          have z_6 : (0 : Int32).toInt = 0 := rfl
          exact ih69 x1 (0 : Int32) σ5 mσ5 fσ5 (by omega) (by omega) (by omega) (by omega) H (by omega)
        · intro q_2
          replace H := f_f q_2 H
          have b_7 : ¬ (0 : Int) ≤ x2.toInt := fun h9 => q_2 (Int32.le_iff_toInt_le.mpr h9)
          refine ⟨hv_1, ?_⟩
          intro σ7 eσ7
          replace H := f_l eσ7 H
          have z_8 : (0 : Int32).toInt = 0 := rfl
          have mσ7 : MI σ7 := by rw [eσ7]; exact MIs_a172 mσ2 (by omega) (by omega)
          have fσ7 : Fr [171, 172, 173] [] σ0 σ7 := by rw [eσ7]; exact Fr_si fσ2 (by decide +kernel) (fun h9 => absurd h9 (by decide +kernel))
          exact ih69 x1 (0 : Int32) σ7 mσ7 fσ7 (by omega) (by omega) (by omega) (by omega) H (by omega)
      · intro x1 x4 σ mσ fσ lx1 ux1 lx4 ux4 H hmu
        replace H : LB_X12_tape_69 (LF_X12_tape n) x1 x4 σ = R9 := H
        unfold LB_X12_tape_69 at H
        refine s_X12_tape_69 C hN ?_
        refine ⟨?_, ?_⟩
        · intro q_9
          replace H := f_t q_9 H
          have b_10 : (60 : Int) ≤ x4.toInt := Int32.le_iff_toInt_le.mp q_9
          have z_11 : (1 : Int32).toInt = 1 := rfl
          exact h9ret (1 : Int32) σ mσ fσ (H0.trans H.symm)
        · intro q_9
          replace H := f_f q_9 H
          have b_12 : ¬ (60 : Int) ≤ x4.toInt := fun h9 => q_9 (Int32.le_iff_toInt_le.mpr h9)
          have t_13 : ((60 : Int32) * x1).toInt = 60 * x1.toInt := i_mull rfl (by omega) (by omega)
          have t_14 : (((60 : Int32) * x1) + x4).toInt = ((60 : Int32) * x1).toInt + x4.toInt := i_add (x := ((60 : Int32) * x1)) (y := x4) (by show (_ : Int) ≤ ((60 : Int32) * x1).toInt + x4.toInt; omega) (by show ((60 : Int32) * x1).toInt + x4.toInt ≤ (_ : Int); omega)
          have hv_15 : vp_in (((60 : Int32) * x1) + x4) 360 := vp_in_iff.mpr ⟨by omega, by omega⟩
          refine ⟨hv_15, ?_⟩
          intro σ3 eσ3
          replace H := f_l eσ3 H
          have mσ3 : MI σ3 := by rw [eσ3]; exact MIs_l mσ
          have fσ3 : Fr [171, 172, 173] [] σ0 σ3 := by rw [eσ3]; exact Fr_sl fσ (by decide +kernel)
          intro v4 ev4
          replace H := f_l ev4 H
          have t_16 : (x4 + (1 : Int32)).toInt = x4.toInt + 1 := i_add (x := x4) (y := (1 : Int32)) (by show (_ : Int) ≤ x4.toInt + 1; omega) (by show x4.toInt + 1 ≤ (_ : Int); omega)
          have t_17 : v4.toInt = (x4 + (1 : Int32)).toInt := congrArg Int32.toInt ev4
          exact ih69 x1 v4 σ3 mσ3 fσ3 (by omega) (by omega) (by omega) (by omega) H (by omega)
  obtain ⟨U44, U69⟩ := T 200
  have f0 : Fr [171, 172, 173] [] σ0 σ0 := Fr_rf
  have H := H0
  unfold F_X12_tape at H
  refine s_X12_tape_0 C hN ?_
  refine kF_X12_isTape m0  (fun r2 σ1 mσ1 cσ1 plσ1 phσ1 (pσ1_0 : (r2.toInt = 1 ∧ 0 ≤ a1.toInt ∧ a1.toInt ≤ 5) ∨ (r2.toInt = 0 ∧ (a1.toInt < 0 ∨ 5 < a1.toInt))) hσ1 => ?_)
  obtain rfl := Fr_nil cσ1
  replace H := f_b hσ1 H
  refine ⟨?_, ?_⟩
  · intro q_18
    replace H := f_f q_18 H
    have b_19 : ¬ r2.toInt = 0 := fun h9 => q_18 (Int32.toInt_inj.mp h9)
    refine kF_X12_in m0  (fun r5 σ4 mσ4 cσ4 plσ4 phσ4 (pσ4_0 : (r5.toInt = 1 ∧ ((-1) : Int) ≤ a2.toInt ∧ a2.toInt ≤ (4 : Int)) ∨ (r5.toInt = 0 ∧ (a2.toInt < ((-1) : Int) ∨ (4 : Int) < a2.toInt))) hσ4 => ?_)
    obtain rfl := Fr_nil cσ4
    replace H := f_b hσ4 H
    refine ⟨?_, ?_⟩
    · intro q_20
      replace H := f_t q_20 H
      have b_21 : r5.toInt = 0 := congrArg Int32.toInt q_20
      have z_22 : (-2 : Int32).toInt = -2 := rfl
      exact h9ret (-2 : Int32) σ0 m0 f0 (H0.trans H.symm)
    · intro q_20
      replace H := f_f q_20 H
      have b_23 : ¬ r5.toInt = 0 := fun h9 => q_20 (Int32.toInt_inj.mp h9)
      refine ⟨?_, ?_⟩
      · intro q_24
        replace H := f_t q_24 H
        have w_25 := Int32.toInt_lt a2
        have w_26 := Int32.le_toInt a2
        have b_27 : a2.toInt < 0 := Int32.lt_iff_toInt_lt.mp q_24
        refine ⟨?_, ?_⟩
        · intro q_28
          replace H := f_t q_28 H
          have b_29 : a2.toInt < 0 := Int32.lt_iff_toInt_lt.mp q_28
          exact U44 a1 a2 a3 σ0 m0 f0 (by omega) (by omega) (by omega) (by omega) (by first | with_reducible assumption | with_reducible rfl | omega | assumption | rfl) H (by omega)
        · intro q_28
          replace H := f_f q_28 H
          have b_30 : ¬ a2.toInt < 0 := fun h9 => q_28 (Int32.lt_iff_toInt_lt.mpr h9)
          refine ⟨?_, ?_⟩
          · intro q_31
            replace H := f_t q_31 H
            have w_32 := Int32.toInt_lt a3
            have w_33 := Int32.le_toInt a3
            have b_34 : (0 : Int) ≤ a3.toInt := Int32.le_iff_toInt_le.mp q_31
            exact U44 a1 a2 a3 σ0 m0 f0 (by omega) (by omega) (by omega) (by omega) (by first | with_reducible assumption | with_reducible rfl | omega | assumption | rfl) H (by omega)
          · intro q_31
            replace H := f_f q_31 H
            have w_35 := Int32.toInt_lt a3
            have w_36 := Int32.le_toInt a3
            have b_37 : ¬ (0 : Int) ≤ a3.toInt := fun h9 => q_31 (Int32.le_iff_toInt_le.mpr h9)
            have z_38 : (-14 : Int32).toInt = -14 := rfl
            exact h9ret (-14 : Int32) σ0 m0 f0 (H0.trans H.symm)
      · intro q_24
        replace H := f_f q_24 H
        have w_39 := Int32.toInt_lt a2
        have w_40 := Int32.le_toInt a2
        have b_41 : ¬ a2.toInt < 0 := fun h9 => q_24 (Int32.lt_iff_toInt_lt.mpr h9)
        refine ⟨?_, ?_⟩
        · intro q_42
          replace H := f_t q_42 H
          have w_43 := Int32.toInt_lt a3
          have w_44 := Int32.le_toInt a3
          have b_45 : a3.toInt ≤ 60 := Int32.le_iff_toInt_le.mp q_42
          refine ⟨?_, ?_⟩
          · intro q_46
            replace H := f_t q_46 H
            have b_47 : a2.toInt < 0 := Int32.lt_iff_toInt_lt.mp q_46
            exact U44 a1 a2 a3 σ0 m0 f0 (by omega) (by omega) (by omega) (by omega) (by first | with_reducible assumption | with_reducible rfl | omega | assumption | rfl) H (by omega)
          · intro q_46
            replace H := f_f q_46 H
            have b_48 : ¬ a2.toInt < 0 := fun h9 => q_46 (Int32.lt_iff_toInt_lt.mpr h9)
            refine ⟨?_, ?_⟩
            · intro q_49
              replace H := f_t q_49 H
              have b_50 : (0 : Int) ≤ a3.toInt := Int32.le_iff_toInt_le.mp q_49
              exact U44 a1 a2 a3 σ0 m0 f0 (by omega) (by omega) (by omega) (by omega) (by first | with_reducible assumption | with_reducible rfl | omega | assumption | rfl) H (by omega)
            · intro q_49
              replace H := f_f q_49 H
              have b_51 : ¬ (0 : Int) ≤ a3.toInt := fun h9 => q_49 (Int32.le_iff_toInt_le.mpr h9)
              have z_52 : (-14 : Int32).toInt = -14 := rfl
              exact h9ret (-14 : Int32) σ0 m0 f0 (H0.trans H.symm)
        · intro q_42
          replace H := f_f q_42 H
          have w_53 := Int32.toInt_lt a3
          have w_54 := Int32.le_toInt a3
          have b_55 : ¬ a3.toInt ≤ 60 := fun h9 => q_42 (Int32.le_iff_toInt_le.mpr h9)
          have z_56 : (-2 : Int32).toInt = -2 := rfl
          exact h9ret (-2 : Int32) σ0 m0 f0 (H0.trans H.symm)
  · intro q_18
    replace H := f_t q_18 H
    have b_57 : r2.toInt = 0 := congrArg Int32.toInt q_18
    have z_58 : (-1 : Int32).toInt = -1 := rfl
    exact h9ret (-1 : Int32) σ0 m0 f0 (H0.trans H.symm)
noncomputable def F_X12_item (a1 : Int32) (a2 : Int32) (a3 : Int64) (σ : Sg) : Int32 × Sg := fb (F_X12_isTape a1 σ) (fun r2 σ1 => (if r2 = 0 then ((-1 : Int32), σ1) else (if 0 ≤ (gi σ1 171 a1.toNatClampNeg) then fb (F_X12_in a2 (0 : Int32) ((gi σ1 172 a1.toNatClampNeg) - (1 : Int32)) σ1) (fun r8 σ7 => (if r8 = 0 then ((-13 : Int32), σ7) else fb (F_X12_narrow (gi σ7 171 a1.toNatClampNeg) a3 σ7) (fun r12 σ11 => fl (sl σ11 173 (((60 : Int32) * a1) + a2).toNatClampNeg r12) (fun σ14 => ((1 : Int32), σ14))))) else ((-11 : Int32), σ1))))
set_option maxRecDepth 100000 in
set_option maxHeartbeats 4000000 in
theorem kF_X12_item {l : Launch} {V : Vx} {a1 : Int32} {a2 : Int32} {a3 : Int64} {σ0 : Sg} {Qk : Int32 → Sg → Prop} (m0 : MI σ0) (h9ret : ∀ (r : Int32) (σ' : Sg), MI σ' → Fr [173] [] σ0 σ' → (F_X12_item a1 a2 a3 σ0 = (r, σ')) → Qk r σ') : K_X12_item l V a1 a2 a3 σ0 Qk := by
  refine e_X12_item (fun M hl hV hN C => ?_)
  subst hl
  subst hV
  obtain ⟨R9, H0⟩ : ∃ R9, F_X12_item a1 a2 a3 σ0 = R9 := ⟨_, rfl⟩
  have f0 : Fr [173] [] σ0 σ0 := Fr_rf
  have H := H0
  unfold F_X12_item at H
  refine s_X12_item_0 C hN ?_
  refine kF_X12_isTape m0  (fun r2 σ1 mσ1 cσ1 plσ1 phσ1 (pσ1_0 : (r2.toInt = 1 ∧ 0 ≤ a1.toInt ∧ a1.toInt ≤ 5) ∨ (r2.toInt = 0 ∧ (a1.toInt < 0 ∨ 5 < a1.toInt))) hσ1 => ?_)
  obtain rfl := Fr_nil cσ1
  replace H := f_b hσ1 H
  refine ⟨?_, ?_⟩
  · intro q_1
    replace H := f_f q_1 H
    have b_2 : ¬ r2.toInt = 0 := fun h9 => q_1 (Int32.toInt_inj.mp h9)
    have w_3 := Int32.toInt_lt a1
    have w_4 := Int32.le_toInt a1
    have hv_5 : vp_in a1 6 := vp_in_iff.mpr ⟨by omega, by omega⟩
    refine ⟨hv_5, ?_⟩
    refine ⟨?_, ?_⟩
    · intro q_6
      replace H := f_t q_6 H
      have t_7 := MI_a171 m0 hv_5
      have b_8 : (0 : Int) ≤ (gi σ0 171 a1.toNatClampNeg).toInt := Int32.le_iff_toInt_le.mp q_6
      refine ⟨hv_5, ?_⟩
      have t_9 := MI_a172 m0 hv_5
      have t_10 : ((gi σ0 172 a1.toNatClampNeg) - (1 : Int32)).toInt = (gi σ0 172 a1.toNatClampNeg).toInt - 1 := i_sub (x := (gi σ0 172 a1.toNatClampNeg)) (y := (1 : Int32)) (by show (_ : Int) ≤ (gi σ0 172 a1.toNatClampNeg).toInt - 1; omega) (by show (gi σ0 172 a1.toNatClampNeg).toInt - 1 ≤ (_ : Int); omega)
      refine kF_X12_in m0  (fun r8 σ7 mσ7 cσ7 plσ7 phσ7 (pσ7_0 : (r8.toInt = 1 ∧ (0 : Int) ≤ a2.toInt ∧ a2.toInt ≤ ((gi σ0 172 a1.toNatClampNeg) - (1 : Int32)).toInt) ∨ (r8.toInt = 0 ∧ (a2.toInt < (0 : Int) ∨ ((gi σ0 172 a1.toNatClampNeg) - (1 : Int32)).toInt < a2.toInt))) hσ7 => ?_)
      obtain rfl := Fr_nil cσ7
      replace H := f_b hσ7 H
      refine ⟨?_, ?_⟩
      · intro q_11
        replace H := f_f q_11 H
        have b_12 : ¬ r8.toInt = 0 := fun h9 => q_11 (Int32.toInt_inj.mp h9)
        refine ⟨hv_5, ?_⟩
        refine kF_X12_narrow m0  (fun r12 σ11 mσ11 cσ11 hσ11 => ?_)
        obtain rfl := Fr_nil cσ11
        replace H := f_b hσ11 H
        try have t_13 : ((60 : Int32) * a1).toInt = 60 * a1.toInt := i_mull rfl (by omega) (by omega)
        have w_14 := Int32.toInt_lt a2
        have w_15 := Int32.le_toInt a2
        try have t_16 : (((60 : Int32) * a1) + a2).toInt = ((60 : Int32) * a1).toInt + a2.toInt := i_add (x := ((60 : Int32) * a1)) (y := a2) (by show (_ : Int) ≤ ((60 : Int32) * a1).toInt + a2.toInt; omega) (by show ((60 : Int32) * a1).toInt + a2.toInt ≤ (_ : Int); omega)
        have hv_17 : vp_in (((60 : Int32) * a1) + a2) 360 := vp_in_iff.mpr ⟨by omega, by omega⟩
        refine ⟨hv_17, ?_⟩
        intro σ14 eσ14
        replace H := f_l eσ14 H
        have mσ14 : MI σ14 := by rw [eσ14]; exact MIs_l m0
        have fσ14 : Fr [173] [] σ0 σ14 := by rw [eσ14]; exact Fr_sl f0 (by decide +kernel)
        have z_18 : (1 : Int32).toInt = 1 := rfl
        exact h9ret (1 : Int32) σ14 mσ14 fσ14 (H0.trans H.symm)
      · intro q_11
        replace H := f_t q_11 H
        have b_19 : r8.toInt = 0 := congrArg Int32.toInt q_11
        have z_20 : (-13 : Int32).toInt = -13 := rfl
        exact h9ret (-13 : Int32) σ0 m0 f0 (H0.trans H.symm)
    · intro q_6
      replace H := f_f q_6 H
      have t_21 := MI_a171 m0 hv_5
      have b_22 : ¬ (0 : Int) ≤ (gi σ0 171 a1.toNatClampNeg).toInt := fun h9 => q_6 (Int32.le_iff_toInt_le.mpr h9)
      have z_23 : (-11 : Int32).toInt = -11 := rfl
      exact h9ret (-11 : Int32) σ0 m0 f0 (H0.trans H.symm)
  · intro q_1
    replace H := f_t q_1 H
    have b_24 : r2.toInt = 0 := congrArg Int32.toInt q_1
    have z_25 : (-1 : Int32).toInt = -1 := rfl
    exact h9ret (-1 : Int32) σ0 m0 f0 (H0.trans H.symm)
noncomputable def F_X12_read (a1 : Int32) (a2 : Int32) (σ : Sg) : Int64 × Sg := fb (F_X12_isTape a1 σ) (fun r2 σ1 => (if r2 = 0 then ((-9223372036854775808 : Int64), σ1) else (if (gi σ1 171 a1.toNatClampNeg) < 0 then ((-9223372036854775808 : Int64), σ1) else fb (F_X12_in a2 (0 : Int32) ((gi σ1 172 a1.toNatClampNeg) - (1 : Int32)) σ1) (fun r8 σ7 => (if r8 = 0 then ((-9223372036854775808 : Int64), σ7) else (gl σ7 173 (((60 : Int32) * a1) + a2).toNatClampNeg, σ7))))))
set_option maxRecDepth 100000 in
set_option maxHeartbeats 4000000 in
theorem kF_X12_read {l : Launch} {V : Vx} {a1 : Int32} {a2 : Int32} {σ0 : Sg} {Qk : Int64 → Sg → Prop} (m0 : MI σ0) (h9ret : ∀ (r : Int64) (σ' : Sg), MI σ' → Fr [] [] σ0 σ' → (F_X12_read a1 a2 σ0 = (r, σ')) → Qk r σ') : K_X12_read l V a1 a2 σ0 Qk := by
  refine e_X12_read (fun M hl hV hN C => ?_)
  subst hl
  subst hV
  obtain ⟨R9, H0⟩ : ∃ R9, F_X12_read a1 a2 σ0 = R9 := ⟨_, rfl⟩
  have f0 : Fr [] [] σ0 σ0 := Fr_rf
  have H := H0
  unfold F_X12_read at H
  refine s_X12_read_0 C hN ?_
  refine kF_X12_isTape m0  (fun r2 σ1 mσ1 cσ1 plσ1 phσ1 (pσ1_0 : (r2.toInt = 1 ∧ 0 ≤ a1.toInt ∧ a1.toInt ≤ 5) ∨ (r2.toInt = 0 ∧ (a1.toInt < 0 ∨ 5 < a1.toInt))) hσ1 => ?_)
  obtain rfl := Fr_nil cσ1
  replace H := f_b hσ1 H
  refine ⟨?_, ?_⟩
  · intro q_1
    replace H := f_t q_1 H
    have b_2 : r2.toInt = 0 := congrArg Int32.toInt q_1
    exact h9ret (-9223372036854775808 : Int64) σ0 m0 f0 (H0.trans H.symm)
  · intro q_1
    replace H := f_f q_1 H
    have b_3 : ¬ r2.toInt = 0 := fun h9 => q_1 (Int32.toInt_inj.mp h9)
    have w_4 := Int32.toInt_lt a1
    have w_5 := Int32.le_toInt a1
    have hv_6 : vp_in a1 6 := vp_in_iff.mpr ⟨by omega, by omega⟩
    refine ⟨hv_6, ?_⟩
    refine ⟨?_, ?_⟩
    · intro q_7
      replace H := f_t q_7 H
      have t_8 := MI_a171 m0 hv_6
      have b_9 : (gi σ0 171 a1.toNatClampNeg).toInt < 0 := Int32.lt_iff_toInt_lt.mp q_7
      exact h9ret (-9223372036854775808 : Int64) σ0 m0 f0 (H0.trans H.symm)
    · intro q_7
      replace H := f_f q_7 H
      have t_10 := MI_a171 m0 hv_6
      have b_11 : ¬ (gi σ0 171 a1.toNatClampNeg).toInt < 0 := fun h9 => q_7 (Int32.lt_iff_toInt_lt.mpr h9)
      refine ⟨hv_6, ?_⟩
      have t_12 := MI_a172 m0 hv_6
      have t_13 : ((gi σ0 172 a1.toNatClampNeg) - (1 : Int32)).toInt = (gi σ0 172 a1.toNatClampNeg).toInt - 1 := i_sub (x := (gi σ0 172 a1.toNatClampNeg)) (y := (1 : Int32)) (by show (_ : Int) ≤ (gi σ0 172 a1.toNatClampNeg).toInt - 1; omega) (by show (gi σ0 172 a1.toNatClampNeg).toInt - 1 ≤ (_ : Int); omega)
      refine kF_X12_in m0  (fun r8 σ7 mσ7 cσ7 plσ7 phσ7 (pσ7_0 : (r8.toInt = 1 ∧ (0 : Int) ≤ a2.toInt ∧ a2.toInt ≤ ((gi σ0 172 a1.toNatClampNeg) - (1 : Int32)).toInt) ∨ (r8.toInt = 0 ∧ (a2.toInt < (0 : Int) ∨ ((gi σ0 172 a1.toNatClampNeg) - (1 : Int32)).toInt < a2.toInt))) hσ7 => ?_)
      obtain rfl := Fr_nil cσ7
      replace H := f_b hσ7 H
      refine ⟨?_, ?_⟩
      · intro q_14
        replace H := f_f q_14 H
        have b_15 : ¬ r8.toInt = 0 := fun h9 => q_14 (Int32.toInt_inj.mp h9)
        try have t_16 : ((60 : Int32) * a1).toInt = 60 * a1.toInt := i_mull rfl (by omega) (by omega)
        have w_17 := Int32.toInt_lt a2
        have w_18 := Int32.le_toInt a2
        try have t_19 : (((60 : Int32) * a1) + a2).toInt = ((60 : Int32) * a1).toInt + a2.toInt := i_add (x := ((60 : Int32) * a1)) (y := a2) (by show (_ : Int) ≤ ((60 : Int32) * a1).toInt + a2.toInt; omega) (by show ((60 : Int32) * a1).toInt + a2.toInt ≤ (_ : Int); omega)
        have hv_20 : vp_in (((60 : Int32) * a1) + a2) 360 := vp_in_iff.mpr ⟨by omega, by omega⟩
        refine ⟨hv_20, ?_⟩
        exact h9ret (gl σ0 173 (((60 : Int32) * a1) + a2).toNatClampNeg) σ0 m0 f0 (H0.trans H.symm)
      · intro q_14
        replace H := f_t q_14 H
        have b_21 : r8.toInt = 0 := congrArg Int32.toInt q_14
        exact h9ret (-9223372036854775808 : Int64) σ0 m0 f0 (H0.trans H.symm)
noncomputable def LB_X12_shift_104 (rec : Nat → Int32 → Int32 → Int32 → Int32 → Int32 → Int32 → Sg → Int32 × Sg) (x1 : Int32) (x2 : Int32) (x3 : Int32) (x4 : Int32) (x5 : Int32) (x6 : Int32) (σ : Sg) : Int32 × Sg := (if x5 ≤ x6 then rec 1 0 0 x3 x4 x5 (0 : Int32) σ else fl (sl σ 174 x6.toNatClampNeg (gl σ 173 ((((60 : Int32) * x1) + x2) + x6).toNatClampNeg)) (fun σ4 => fl (x6 + 1) (fun v5 => rec 0 x1 x2 x3 x4 x5 v5 σ4)))
noncomputable def LB_X12_shift_141 (rec : Nat → Int32 → Int32 → Int32 → Int32 → Int32 → Int32 → Sg → Int32 × Sg) (x3 : Int32) (x4 : Int32) (x5 : Int32) (x6 : Int32) (σ : Sg) : Int32 × Sg := (if x5 ≤ x6 then (x5, σ) else fl (sl σ 173 ((((60 : Int32) * x3) + x4) + x6).toNatClampNeg (gl σ 174 x6.toNatClampNeg)) (fun σ4 => fl (x6 + 1) (fun v5 => rec 1 0 0 x3 x4 x5 v5 σ4)))
noncomputable def LF_X12_shift : Nat → Nat → Int32 → Int32 → Int32 → Int32 → Int32 → Int32 → Sg → Int32 × Sg
  | 0, _, _, _, _, _, _, _, σ => (0, σ)
  | n + 1, 0, x1, x2, x3, x4, x5, x6, σ => LB_X12_shift_104 (LF_X12_shift n) x1 x2 x3 x4 x5 x6 σ
  | n + 1, 1, _, _, x3, x4, x5, x6, σ => LB_X12_shift_141 (LF_X12_shift n) x3 x4 x5 x6 σ
  | _ + 1, _ + 2, _, _, _, _, _, _, σ => (0, σ)
noncomputable def F_X12_shift (a1 : Int32) (a2 : Int32) (a3 : Int32) (a4 : Int32) (a5 : Int32) (σ : Sg) : Int32 × Sg := fb (F_X12_isTape a1 σ) (fun r2 σ1 => (if r2 = 0 then ((-1 : Int32), σ1) else fb (F_X12_isTape a3 σ1) (fun r5 σ4 => (if r5 = 0 then ((-1 : Int32), σ4) else (if (gi σ4 171 a1.toNatClampNeg) < 0 then ((-11 : Int32), σ4) else (if 0 ≤ (gi σ4 171 a3.toNatClampNeg) then (if (gi σ4 171 a1.toNatClampNeg) = (gi σ4 171 a3.toNatClampNeg) then (if a5 < 0 then ((-13 : Int32), σ4) else (if a2 < 0 then ((-13 : Int32), σ4) else (if a4 < 0 then ((-13 : Int32), σ4) else (if ((gi σ4 172 a1.toNatClampNeg) - a5) < a2 then ((-13 : Int32), σ4) else (if a4 ≤ ((gi σ4 172 a3.toNatClampNeg) - a5) then LF_X12_shift 300 0 a1 a2 a3 a4 a5 (0 : Int32) σ4 else ((-13 : Int32), σ4)))))) else ((-12 : Int32), σ4)) else ((-11 : Int32), σ4)))))))
set_option maxRecDepth 100000 in
set_option maxHeartbeats 4000000 in
theorem kF_X12_shift {l : Launch} {V : Vx} {a1 : Int32} {a2 : Int32} {a3 : Int32} {a4 : Int32} {a5 : Int32} {σ0 : Sg} {Qk : Int32 → Sg → Prop} (m0 : MI σ0) (h9ret : ∀ (r : Int32) (σ' : Sg), MI σ' → Fr [173, 174] [] σ0 σ' → (F_X12_shift a1 a2 a3 a4 a5 σ0 = (r, σ')) → Qk r σ') : K_X12_shift l V a1 a2 a3 a4 a5 σ0 Qk := by
  refine e_X12_shift (fun M hl hV hN C => ?_)
  subst hl
  subst hV
  obtain ⟨R9, H0⟩ : ∃ R9, F_X12_shift a1 a2 a3 a4 a5 σ0 = R9 := ⟨_, rfl⟩
  have T : ∀ n : Nat, (∀ (x1 : Int32) (x2 : Int32) (x3 : Int32) (x4 : Int32) (x5 : Int32) (x6 : Int32) (σ : Sg), MI σ → Fr [173, 174] [] σ0 σ → (0 ≤ x1.toInt) → (x1.toInt ≤ 5) → (0 ≤ x2.toInt) → (x2.toInt ≤ 60) → (0 ≤ x3.toInt) → (x3.toInt ≤ 5) → (0 ≤ x4.toInt) → (x4.toInt ≤ 60) → (0 ≤ x5.toInt) → (x5.toInt ≤ 60) → (0 ≤ x6.toInt) → (x6.toInt ≤ 60) → (x2.toInt + x5.toInt ≤ 60) → (x4.toInt + x5.toInt ≤ 60) → (LF_X12_shift n 0 x1 x2 x3 x4 x5 x6 σ = R9) → (61 - x6.toInt).toNat + 100 < n → PS M 104 [(0, .ref 74), (1, .int x1), (2, .int x2), (3, .int x3), (4, .int x4), (5, .int x5), (6, .int x6)] [] σ (0, 0)) ∧ (∀ (x3 : Int32) (x4 : Int32) (x5 : Int32) (x6 : Int32) (σ : Sg), MI σ → Fr [173, 174] [] σ0 σ → (0 ≤ x3.toInt) → (x3.toInt ≤ 5) → (0 ≤ x4.toInt) → (x4.toInt ≤ 60) → (0 ≤ x5.toInt) → (x5.toInt ≤ 60) → (0 ≤ x6.toInt) → (x6.toInt ≤ 60) → (x4.toInt + x5.toInt ≤ 60) → (LF_X12_shift n 1 0 0 x3 x4 x5 x6 σ = R9) → (61 - x6.toInt).toNat < n → PS M 141 [(0, .ref 74), (3, .int x3), (4, .int x4), (5, .int x5), (6, .int x6)] [] σ (0, 0)) := by
    intro n
    induction n with
    | zero => exact ⟨fun _ _ _ _ _ _ _ _ _ _ _ _ _ _ _ _ _ _ _ _ _ _ _ _ h8 => absurd h8 (Nat.not_lt_zero _), fun _ _ _ _ _ _ _ _ _ _ _ _ _ _ _ _ _ h8 => absurd h8 (Nat.not_lt_zero _)⟩
    | succ n ih =>
      obtain ⟨ih104, ih141⟩ := ih
      refine ⟨?_, ?_⟩
      · intro x1 x2 x3 x4 x5 x6 σ mσ fσ lx1 ux1 lx2 ux2 lx3 ux3 lx4 ux4 lx5 ux5 lx6 ux6 i0 i1 H hmu
        replace H : LB_X12_shift_104 (LF_X12_shift n) x1 x2 x3 x4 x5 x6 σ = R9 := H
        unfold LB_X12_shift_104 at H
        refine s_X12_shift_104 C hN ?_
        refine ⟨?_, ?_⟩
        · intro q_1
          replace H := f_t q_1 H
          have b_2 : x5.toInt ≤ x6.toInt := Int32.le_iff_toInt_le.mp q_1
          have z_3 : (0 : Int32).toInt = 0 := rfl
          exact ih141 x3 x4 x5 (0 : Int32) σ mσ fσ (by omega) (by omega) (by omega) (by omega) (by omega) (by omega) (by omega) (by omega) (by first | with_reducible assumption | with_reducible rfl | omega | assumption | rfl) H (by omega)
        · intro q_1
          replace H := f_f q_1 H
          have b_4 : ¬ x5.toInt ≤ x6.toInt := fun h9 => q_1 (Int32.le_iff_toInt_le.mpr h9)
          have t_5 : ((60 : Int32) * x1).toInt = 60 * x1.toInt := i_mull rfl (by omega) (by omega)
          have t_6 : (((60 : Int32) * x1) + x2).toInt = ((60 : Int32) * x1).toInt + x2.toInt := i_add (x := ((60 : Int32) * x1)) (y := x2) (by show (_ : Int) ≤ ((60 : Int32) * x1).toInt + x2.toInt; omega) (by show ((60 : Int32) * x1).toInt + x2.toInt ≤ (_ : Int); omega)
          have t_7 : ((((60 : Int32) * x1) + x2) + x6).toInt = (((60 : Int32) * x1) + x2).toInt + x6.toInt := i_add (x := (((60 : Int32) * x1) + x2)) (y := x6) (by show (_ : Int) ≤ (((60 : Int32) * x1) + x2).toInt + x6.toInt; omega) (by show (((60 : Int32) * x1) + x2).toInt + x6.toInt ≤ (_ : Int); omega)
          have hv_8 : vp_in ((((60 : Int32) * x1) + x2) + x6) 360 := vp_in_iff.mpr ⟨by omega, by omega⟩
          refine ⟨hv_8, ?_⟩
          have hv_9 : vp_in x6 60 := vp_in_iff.mpr ⟨by omega, by omega⟩
          refine ⟨hv_9, ?_⟩
          intro σ4 eσ4
          replace H := f_l eσ4 H
          have mσ4 : MI σ4 := by rw [eσ4]; exact MIs_l mσ
          have fσ4 : Fr [173, 174] [] σ0 σ4 := by rw [eσ4]; exact Fr_sl fσ (by decide +kernel)
          intro v5 ev5
          replace H := f_l ev5 H
          have t_10 : (x6 + (1 : Int32)).toInt = x6.toInt + 1 := i_add (x := x6) (y := (1 : Int32)) (by show (_ : Int) ≤ x6.toInt + 1; omega) (by show x6.toInt + 1 ≤ (_ : Int); omega)
          have t_11 : v5.toInt = (x6 + (1 : Int32)).toInt := congrArg Int32.toInt ev5
          exact ih104 x1 x2 x3 x4 x5 v5 σ4 mσ4 fσ4 (by omega) (by omega) (by omega) (by omega) (by omega) (by omega) (by omega) (by omega) (by omega) (by omega) (by omega) (by omega) (by first | with_reducible assumption | with_reducible rfl | omega | assumption | rfl) (by first | with_reducible assumption | with_reducible rfl | omega | assumption | rfl) H (by omega)
      · intro x3 x4 x5 x6 σ mσ fσ lx3 ux3 lx4 ux4 lx5 ux5 lx6 ux6 i0 H hmu
        replace H : LB_X12_shift_141 (LF_X12_shift n) x3 x4 x5 x6 σ = R9 := H
        unfold LB_X12_shift_141 at H
        refine s_X12_shift_141 C hN ?_
        refine ⟨?_, ?_⟩
        · intro q_12
          replace H := f_t q_12 H
          have b_13 : x5.toInt ≤ x6.toInt := Int32.le_iff_toInt_le.mp q_12
          exact h9ret x5 σ mσ fσ (H0.trans H.symm)
        · intro q_12
          replace H := f_f q_12 H
          have b_14 : ¬ x5.toInt ≤ x6.toInt := fun h9 => q_12 (Int32.le_iff_toInt_le.mpr h9)
          have hv_15 : vp_in x6 60 := vp_in_iff.mpr ⟨by omega, by omega⟩
          refine ⟨hv_15, ?_⟩
          have t_16 : ((60 : Int32) * x3).toInt = 60 * x3.toInt := i_mull rfl (by omega) (by omega)
          have t_17 : (((60 : Int32) * x3) + x4).toInt = ((60 : Int32) * x3).toInt + x4.toInt := i_add (x := ((60 : Int32) * x3)) (y := x4) (by show (_ : Int) ≤ ((60 : Int32) * x3).toInt + x4.toInt; omega) (by show ((60 : Int32) * x3).toInt + x4.toInt ≤ (_ : Int); omega)
          have t_18 : ((((60 : Int32) * x3) + x4) + x6).toInt = (((60 : Int32) * x3) + x4).toInt + x6.toInt := i_add (x := (((60 : Int32) * x3) + x4)) (y := x6) (by show (_ : Int) ≤ (((60 : Int32) * x3) + x4).toInt + x6.toInt; omega) (by show (((60 : Int32) * x3) + x4).toInt + x6.toInt ≤ (_ : Int); omega)
          have hv_19 : vp_in ((((60 : Int32) * x3) + x4) + x6) 360 := vp_in_iff.mpr ⟨by omega, by omega⟩
          refine ⟨hv_19, ?_⟩
          intro σ4 eσ4
          replace H := f_l eσ4 H
          have mσ4 : MI σ4 := by rw [eσ4]; exact MIs_l mσ
          have fσ4 : Fr [173, 174] [] σ0 σ4 := by rw [eσ4]; exact Fr_sl fσ (by decide +kernel)
          intro v5 ev5
          replace H := f_l ev5 H
          have t_20 : (x6 + (1 : Int32)).toInt = x6.toInt + 1 := i_add (x := x6) (y := (1 : Int32)) (by show (_ : Int) ≤ x6.toInt + 1; omega) (by show x6.toInt + 1 ≤ (_ : Int); omega)
          have t_21 : v5.toInt = (x6 + (1 : Int32)).toInt := congrArg Int32.toInt ev5
          exact ih141 x3 x4 x5 v5 σ4 mσ4 fσ4 (by omega) (by omega) (by omega) (by omega) (by omega) (by omega) (by omega) (by omega) (by first | with_reducible assumption | with_reducible rfl | omega | assumption | rfl) H (by omega)
  obtain ⟨U104, U141⟩ := T 300
  have f0 : Fr [173, 174] [] σ0 σ0 := Fr_rf
  have H := H0
  unfold F_X12_shift at H
  refine s_X12_shift_0 C hN ?_
  refine kF_X12_isTape m0  (fun r2 σ1 mσ1 cσ1 plσ1 phσ1 (pσ1_0 : (r2.toInt = 1 ∧ 0 ≤ a1.toInt ∧ a1.toInt ≤ 5) ∨ (r2.toInt = 0 ∧ (a1.toInt < 0 ∨ 5 < a1.toInt))) hσ1 => ?_)
  obtain rfl := Fr_nil cσ1
  replace H := f_b hσ1 H
  refine ⟨?_, ?_⟩
  · intro q_22
    replace H := f_t q_22 H
    have b_23 : r2.toInt = 0 := congrArg Int32.toInt q_22
    have z_24 : (-1 : Int32).toInt = -1 := rfl
    exact h9ret (-1 : Int32) σ0 m0 f0 (H0.trans H.symm)
  · intro q_22
    replace H := f_f q_22 H
    have b_25 : ¬ r2.toInt = 0 := fun h9 => q_22 (Int32.toInt_inj.mp h9)
    refine kF_X12_isTape m0  (fun r5 σ4 mσ4 cσ4 plσ4 phσ4 (pσ4_0 : (r5.toInt = 1 ∧ 0 ≤ a3.toInt ∧ a3.toInt ≤ 5) ∨ (r5.toInt = 0 ∧ (a3.toInt < 0 ∨ 5 < a3.toInt))) hσ4 => ?_)
    obtain rfl := Fr_nil cσ4
    replace H := f_b hσ4 H
    refine ⟨?_, ?_⟩
    · intro q_26
      replace H := f_f q_26 H
      have b_27 : ¬ r5.toInt = 0 := fun h9 => q_26 (Int32.toInt_inj.mp h9)
      have w_28 := Int32.toInt_lt a1
      have w_29 := Int32.le_toInt a1
      have hv_30 : vp_in a1 6 := vp_in_iff.mpr ⟨by omega, by omega⟩
      refine ⟨hv_30, ?_⟩
      refine ⟨?_, ?_⟩
      · intro q_31
        replace H := f_t q_31 H
        have t_32 := MI_a171 m0 hv_30
        have b_33 : (gi σ0 171 a1.toNatClampNeg).toInt < 0 := Int32.lt_iff_toInt_lt.mp q_31
        have z_34 : (-11 : Int32).toInt = -11 := rfl
        exact h9ret (-11 : Int32) σ0 m0 f0 (H0.trans H.symm)
      · intro q_31
        replace H := f_f q_31 H
        have t_35 := MI_a171 m0 hv_30
        have b_36 : ¬ (gi σ0 171 a1.toNatClampNeg).toInt < 0 := fun h9 => q_31 (Int32.lt_iff_toInt_lt.mpr h9)
        have w_37 := Int32.toInt_lt a3
        have w_38 := Int32.le_toInt a3
        have hv_39 : vp_in a3 6 := vp_in_iff.mpr ⟨by omega, by omega⟩
        refine ⟨hv_39, ?_⟩
        refine ⟨?_, ?_⟩
        · intro q_40
          replace H := f_t q_40 H
          have t_41 := MI_a171 m0 hv_39
          have b_42 : (0 : Int) ≤ (gi σ0 171 a3.toNatClampNeg).toInt := Int32.le_iff_toInt_le.mp q_40
          refine ⟨hv_30, ?_⟩
          refine ⟨hv_39, ?_⟩
          refine ⟨?_, ?_⟩
          · intro q_43
            replace H := f_t q_43 H
            have b_44 : (gi σ0 171 a1.toNatClampNeg).toInt = (gi σ0 171 a3.toNatClampNeg).toInt := congrArg Int32.toInt q_43
            refine ⟨?_, ?_⟩
            · intro q_45
              replace H := f_t q_45 H
              have w_46 := Int32.toInt_lt a5
              have w_47 := Int32.le_toInt a5
              have b_48 : a5.toInt < 0 := Int32.lt_iff_toInt_lt.mp q_45
              have z_49 : (-13 : Int32).toInt = -13 := rfl
              exact h9ret (-13 : Int32) σ0 m0 f0 (H0.trans H.symm)
            · intro q_45
              replace H := f_f q_45 H
              have w_50 := Int32.toInt_lt a5
              have w_51 := Int32.le_toInt a5
              have b_52 : ¬ a5.toInt < 0 := fun h9 => q_45 (Int32.lt_iff_toInt_lt.mpr h9)
              refine ⟨?_, ?_⟩
              · intro q_53
                replace H := f_t q_53 H
                have w_54 := Int32.toInt_lt a2
                have w_55 := Int32.le_toInt a2
                have b_56 : a2.toInt < 0 := Int32.lt_iff_toInt_lt.mp q_53
                have z_57 : (-13 : Int32).toInt = -13 := rfl
                exact h9ret (-13 : Int32) σ0 m0 f0 (H0.trans H.symm)
              · intro q_53
                replace H := f_f q_53 H
                have w_58 := Int32.toInt_lt a2
                have w_59 := Int32.le_toInt a2
                have b_60 : ¬ a2.toInt < 0 := fun h9 => q_53 (Int32.lt_iff_toInt_lt.mpr h9)
                refine ⟨?_, ?_⟩
                · intro q_61
                  replace H := f_t q_61 H
                  have w_62 := Int32.toInt_lt a4
                  have w_63 := Int32.le_toInt a4
                  have b_64 : a4.toInt < 0 := Int32.lt_iff_toInt_lt.mp q_61
                  have z_65 : (-13 : Int32).toInt = -13 := rfl
                  exact h9ret (-13 : Int32) σ0 m0 f0 (H0.trans H.symm)
                · intro q_61
                  replace H := f_f q_61 H
                  have w_66 := Int32.toInt_lt a4
                  have w_67 := Int32.le_toInt a4
                  have b_68 : ¬ a4.toInt < 0 := fun h9 => q_61 (Int32.lt_iff_toInt_lt.mpr h9)
                  refine ⟨hv_30, ?_⟩
                  refine ⟨?_, ?_⟩
                  · intro q_69
                    replace H := f_t q_69 H
                    have t_70 := MI_a172 m0 hv_30
                    try have t_71 : ((gi σ0 172 a1.toNatClampNeg) - a5).toInt = (gi σ0 172 a1.toNatClampNeg).toInt - a5.toInt := i_sub (x := (gi σ0 172 a1.toNatClampNeg)) (y := a5) (by show (_ : Int) ≤ (gi σ0 172 a1.toNatClampNeg).toInt - a5.toInt; omega) (by show (gi σ0 172 a1.toNatClampNeg).toInt - a5.toInt ≤ (_ : Int); omega)
                    have b_72 : ((gi σ0 172 a1.toNatClampNeg) - a5).toInt < a2.toInt := Int32.lt_iff_toInt_lt.mp q_69
                    have z_73 : (-13 : Int32).toInt = -13 := rfl
                    exact h9ret (-13 : Int32) σ0 m0 f0 (H0.trans H.symm)
                  · intro q_69
                    replace H := f_f q_69 H
                    have t_74 := MI_a172 m0 hv_30
                    try have t_75 : ((gi σ0 172 a1.toNatClampNeg) - a5).toInt = (gi σ0 172 a1.toNatClampNeg).toInt - a5.toInt := i_sub (x := (gi σ0 172 a1.toNatClampNeg)) (y := a5) (by show (_ : Int) ≤ (gi σ0 172 a1.toNatClampNeg).toInt - a5.toInt; omega) (by show (gi σ0 172 a1.toNatClampNeg).toInt - a5.toInt ≤ (_ : Int); omega)
                    have b_76 : ¬ ((gi σ0 172 a1.toNatClampNeg) - a5).toInt < a2.toInt := fun h9 => q_69 (Int32.lt_iff_toInt_lt.mpr h9)
                    refine ⟨hv_39, ?_⟩
                    refine ⟨?_, ?_⟩
                    · intro q_77
                      replace H := f_t q_77 H
                      have t_78 := MI_a172 m0 hv_39
                      try have t_79 : ((gi σ0 172 a3.toNatClampNeg) - a5).toInt = (gi σ0 172 a3.toNatClampNeg).toInt - a5.toInt := i_sub (x := (gi σ0 172 a3.toNatClampNeg)) (y := a5) (by show (_ : Int) ≤ (gi σ0 172 a3.toNatClampNeg).toInt - a5.toInt; omega) (by show (gi σ0 172 a3.toNatClampNeg).toInt - a5.toInt ≤ (_ : Int); omega)
                      have b_80 : a4.toInt ≤ ((gi σ0 172 a3.toNatClampNeg) - a5).toInt := Int32.le_iff_toInt_le.mp q_77
                      have z_81 : (0 : Int32).toInt = 0 := rfl
                      exact U104 a1 a2 a3 a4 a5 (0 : Int32) σ0 m0 f0 (by omega) (by omega) (by omega) (by omega) (by omega) (by omega) (by omega) (by omega) (by omega) (by omega) (by omega) (by omega) (by first | with_reducible assumption | with_reducible rfl | omega | assumption | rfl) (by first | with_reducible assumption | with_reducible rfl | omega | assumption | rfl) H (by omega)
                    · intro q_77
                      replace H := f_f q_77 H
                      have t_82 := MI_a172 m0 hv_39
                      try have t_83 : ((gi σ0 172 a3.toNatClampNeg) - a5).toInt = (gi σ0 172 a3.toNatClampNeg).toInt - a5.toInt := i_sub (x := (gi σ0 172 a3.toNatClampNeg)) (y := a5) (by show (_ : Int) ≤ (gi σ0 172 a3.toNatClampNeg).toInt - a5.toInt; omega) (by show (gi σ0 172 a3.toNatClampNeg).toInt - a5.toInt ≤ (_ : Int); omega)
                      have b_84 : ¬ a4.toInt ≤ ((gi σ0 172 a3.toNatClampNeg) - a5).toInt := fun h9 => q_77 (Int32.le_iff_toInt_le.mpr h9)
                      have z_85 : (-13 : Int32).toInt = -13 := rfl
                      exact h9ret (-13 : Int32) σ0 m0 f0 (H0.trans H.symm)
          · intro q_43
            replace H := f_f q_43 H
            have b_86 : ¬ (gi σ0 171 a1.toNatClampNeg).toInt = (gi σ0 171 a3.toNatClampNeg).toInt := fun h9 => q_43 (Int32.toInt_inj.mp h9)
            have z_87 : (-12 : Int32).toInt = -12 := rfl
            exact h9ret (-12 : Int32) σ0 m0 f0 (H0.trans H.symm)
        · intro q_40
          replace H := f_f q_40 H
          have t_88 := MI_a171 m0 hv_39
          have b_89 : ¬ (0 : Int) ≤ (gi σ0 171 a3.toNatClampNeg).toInt := fun h9 => q_40 (Int32.le_iff_toInt_le.mpr h9)
          have z_90 : (-11 : Int32).toInt = -11 := rfl
          exact h9ret (-11 : Int32) σ0 m0 f0 (H0.trans H.symm)
    · intro q_26
      replace H := f_t q_26 H
      have b_91 : r5.toInt = 0 := congrArg Int32.toInt q_26
      have z_92 : (-1 : Int32).toInt = -1 := rfl
      exact h9ret (-1 : Int32) σ0 m0 f0 (H0.trans H.symm)
/-! the tapes, as functions -/
theorem fb_mk {α β : Type} {x : α} {s : Sg} {f : α → Sg → β} : fb (x, s) f = f x s := rfl
theorem fl_mk {α β : Type} {a : α} {f : α → β} : fl a f = f a := rfl
noncomputable def cutv (s : Int32) (z : Int64) : Int64 := if s.toInt = 0 then z.toInt32.toInt8.toInt32.toInt64 else if s.toInt = 1 then z.toInt32.toInt16.toInt32.toInt64 else if s.toInt = 2 then z.toInt32.toInt64 else if s.toInt = 4 then (if lg_cmp z (0 : Int64) = 0 then (0 : Int64) else (1 : Int64)) else z
theorem F_cut {c0 : Nat} {a1 : Int64} {σ : Sg} : F_X9_cut c0 a1 σ = (cutv (gi σ c0 1) a1, σ) := by
  unfold F_X9_cut cutv
  by_cases h0 : (gi σ c0 1).toInt = 0
  · rw [if_pos h0, if_pos h0]
  rw [if_neg h0, if_neg h0]
  by_cases h1 : (gi σ c0 1).toInt = 1
  · rw [if_pos h1, if_pos h1]
  rw [if_neg h1, if_neg h1]
  by_cases h2 : (gi σ c0 1).toInt = 2
  · rw [if_pos h2, if_pos h2]
  rw [if_neg h2, if_neg h2]
  by_cases h3 : (gi σ c0 1).toInt = 3
  · rw [if_pos h3, if_neg (by omega)]
  rw [if_neg h3]
  by_cases h4 : (gi σ c0 1).toInt = 4
  · rw [if_pos h4, if_pos h4]
    by_cases hz : lg_cmp a1 (0 : Int64) = 0
    · rw [if_pos hz, if_pos hz]
    · rw [if_neg hz, if_neg hz]
  rw [if_neg h4, if_neg h4]
theorem F_narrow {a1 : Int32} {z : Int64} {σ : Sg} : F_X12_narrow a1 z σ = (cutv a1 z, σ) := by
  unfold F_X12_narrow cutv
  have e : ∀ n : Int32, a1 = n ↔ a1.toInt = n.toInt := fun n => Int32.toInt_inj.symm
  by_cases h0 : a1.toInt = 0
  · rw [if_pos ((e 0).mpr h0), if_pos h0]
  rw [if_neg (fun h => h0 ((e 0).mp h)), if_neg h0]
  by_cases h1 : a1.toInt = 1
  · rw [if_pos ((e 1).mpr h1), if_pos h1]
  rw [if_neg (fun h => h1 ((e 1).mp h)), if_neg h1]
  by_cases h2 : a1.toInt = 2
  · rw [if_pos ((e 2).mpr h2), if_pos h2]
  rw [if_neg (fun h => h2 ((e 2).mp h)), if_neg h2]
  by_cases h4 : a1.toInt = 4
  · rw [if_pos ((e 4).mpr h4), if_pos h4]
    by_cases hz : lg_cmp z (0 : Int64) = 0
    · rw [if_pos hz, if_pos hz]
    · rw [if_neg hz, if_neg hz]
  rw [if_neg (fun h => h4 ((e 4).mp h)), if_neg h4]
theorem i_lt0 {a : Int32} (h : a.toInt < 0) : a < 0 := Int32.lt_iff_toInt_lt.mpr h
theorem i_nlt0 {a : Int32} (h : 0 ≤ a.toInt) : ¬ a < 0 := fun q => by
  have q2 : a.toInt < 0 := Int32.lt_iff_toInt_lt.mp q
  omega
theorem i_lt {a b : Int32} (h : a.toInt < b.toInt) : a < b := Int32.lt_iff_toInt_lt.mpr h
theorem i_nlt {a b : Int32} (h : b.toInt ≤ a.toInt) : ¬ a < b := fun q => by
  have q2 := Int32.lt_iff_toInt_lt.mp q
  omega
theorem i_le {a b : Int32} (h : a.toInt ≤ b.toInt) : a ≤ b := Int32.le_iff_toInt_le.mpr h
theorem i_nle {a b : Int32} (h : b.toInt < a.toInt) : ¬ a ≤ b := fun q => by
  have q2 := Int32.le_iff_toInt_le.mp q
  omega
theorem i_ne {a b : Int32} (h : a.toInt ≠ b.toInt) : ¬ a = b := fun q => h (congrArg Int32.toInt q)
theorem i_eq {a b : Int32} (h : a.toInt = b.toInt) : a = b := Int32.toInt_inj.mp h
theorem F_isTape {a1 : Int32} {σ : Sg} : F_X11_isTape a1 σ = (if 0 ≤ a1.toInt ∧ a1.toInt ≤ 5 then (1 : Int32) else 0, σ) := by
  unfold F_X11_isTape
  by_cases c1 : a1.toInt < 0
  · rw [if_pos (i_lt0 c1), if_neg (by omega)]
  rw [if_neg (i_nlt0 (by omega))]
  by_cases c2 : (6 : Int) ≤ a1.toInt
  · rw [if_pos (i_le (a := (6 : Int32)) c2), if_neg (by omega)]
  · rw [if_neg (i_nle (a := (6 : Int32)) (by show a1.toInt < 6; omega)), if_pos (by omega)]
theorem F_in {a b c : Int32} {σ : Sg} : F_X12_in a b c σ = (if b.toInt ≤ a.toInt ∧ a.toInt ≤ c.toInt then (1 : Int32) else 0, σ) := by
  unfold F_X12_in
  by_cases c1 : a.toInt < b.toInt
  · rw [if_pos (i_lt c1), if_neg (by omega)]
  rw [if_neg (i_nlt (by omega))]
  by_cases c2 : c.toInt < a.toInt
  · rw [if_pos (i_lt c2), if_neg (by omega)]
  · rw [if_neg (i_nlt (by omega)), if_pos (by omega)]
theorem F_misTape {a1 : Int32} {σ : Sg} : F_X12_isTape a1 σ = (if 0 ≤ a1.toInt ∧ a1.toInt ≤ 5 then (1 : Int32) else 0, σ) := by
  unfold F_X12_isTape
  rw [F_in]
  rfl
theorem F_isEmpty {c0 : Nat} {σ : Sg} : F_X9_isEmpty c0 σ = (if (gi σ c0 1).toInt < 0 then (1 : Int32) else 0, σ) := by
  unfold F_X9_isEmpty
  by_cases c1 : (gi σ c0 1).toInt < 0
  · rw [if_neg (i_nle c1), if_pos c1]
  · rw [if_pos (i_le (by show (0 : Int) ≤ _; omega)), if_neg c1]
theorem F_has {c0 : Nat} {a1 : Int32} {σ : Sg} : F_X9_has c0 a1 σ = (if 0 ≤ a1.toInt ∧ a1.toInt < (gi σ c0 2).toInt then (1 : Int32) else 0, σ) := by
  unfold F_X9_has
  by_cases c1 : a1.toInt < 0
  · rw [if_pos (i_lt0 c1), if_neg (by omega)]
  rw [if_neg (i_nlt0 (by omega))]
  by_cases c2 : (gi σ c0 2).toInt ≤ a1.toInt
  · rw [if_pos (i_le c2), if_neg (by omega)]
  · rw [if_neg (i_nle (by omega)), if_pos (by omega)]
theorem F_hasPart {c0 : Nat} {a1 a2 : Int32} {σ : Sg} (h0 : 0 ≤ (gi σ c0 2).toInt) (h1 : (gi σ c0 2).toInt ≤ 60) : F_X9_hasPart c0 a1 a2 σ = (if 0 ≤ a2.toInt ∧ 0 ≤ a1.toInt ∧ a1.toInt ≤ (gi σ c0 2).toInt - a2.toInt then (1 : Int32) else 0, σ) := by
  unfold F_X9_hasPart
  by_cases c1 : a2.toInt < 0
  · rw [if_pos (i_lt0 c1), if_neg (by omega)]
  rw [if_neg (i_nlt0 (by omega))]
  by_cases c2 : a1.toInt < 0
  · rw [if_pos (i_lt0 c2), if_neg (by omega)]
  rw [if_neg (i_nlt0 (by omega))]
  by_cases c3 : (gi σ c0 2).toInt < a2.toInt
  · rw [if_pos (i_lt c3), if_neg (by omega)]
  rw [if_neg (i_nlt (by omega))]
  have e : ((gi σ c0 2) - a2).toInt = (gi σ c0 2).toInt - a2.toInt := i_sub (by show (_ : Int) ≤ (gi σ c0 2).toInt - a2.toInt; omega) (by show (gi σ c0 2).toInt - a2.toInt ≤ (_ : Int); omega)
  by_cases c4 : (gi σ c0 2).toInt - a2.toInt < a1.toInt
  · rw [if_pos (i_lt (by rw [e]; exact c4)), if_neg (by omega)]
  · rw [if_neg (i_nlt (by rw [e]; omega)), if_pos (by omega)]
/-- what both tapes hold alike -/
noncomputable def TAP (σ : Sg) : Prop := ∀ t : Nat, t < 6 → gi σ (52 + 2 * t) 1 = gi σ 171 t ∧ gi σ (52 + 2 * t) 2 = gi σ 172 t ∧ ((gi σ 171 t).toInt < 0 → (gi σ 172 t).toInt = 0) ∧ ∀ i : Nat, i < 60 → gl σ (52 + 2 * t + 1) i = gl σ 173 (60 * t + i)
theorem gl_sl {σ : Sg} {a k b j : Nat} {v : Int64} : gl (sl σ a k v) b j = if b = a ∧ j = k then v else gl σ b j := by
  unfold gl sl sla va_up vp_updL
  by_cases h : b = a
  · subst h
    by_cases h2 : j = k
    · subst h2; simp
    · simp [h2]
  · simp [h]
theorem gl_sla {σ : Sg} {a b j : Nat} {g : Nat → Int64} : gl (sla σ a g) b j = if b = a then g j else gl σ b j := by
  unfold gl sla va_up
  by_cases h : b = a
  · subst h; simp
  · simp [h]
theorem gl_si {σ : Sg} {a k b j : Nat} {v : Int32} : gl (si σ a k v) b j = gl σ b j := rfl
theorem gi_sla {σ : Sg} {a b j : Nat} {g : Nat → Int64} : gi (sla σ a g) b j = gi σ b j := rfl
theorem ite_10 {α : Type} {c : Prop} {d : Decidable c} {A B : α} : (if (@ite Int32 c d 1 0) = 0 then A else B) = @ite α c d B A := by
  by_cases h : c
  · rw [if_pos h, if_pos h, if_neg (by decide +kernel)]
  · rw [if_neg h, if_neg h, if_pos rfl]
/-- one item -/
theorem N_xitem {a1 a2 : Int32} {a3 : Int64} {σ : Sg} : F_X11_item a1 a2 a3 σ = if 0 ≤ a1.toInt ∧ a1.toInt ≤ 5 then (if (gi σ (52 + 2 * a1.toNatClampNeg) 1).toInt < 0 then ((-11 : Int32), σ) else if 0 ≤ a2.toInt ∧ a2.toInt < (gi σ (52 + 2 * a1.toNatClampNeg) 2).toInt then ((1 : Int32), sl σ (52 + 2 * a1.toNatClampNeg + 1) a2.toNatClampNeg (cutv (gi σ (52 + 2 * a1.toNatClampNeg) 1) a3)) else ((-13 : Int32), σ)) else ((-1 : Int32), σ) := by
  unfold F_X11_item
  rw [F_isTape, fb_mk, ite_10]
  by_cases c : 0 ≤ a1.toInt ∧ a1.toInt ≤ 5
  · rw [if_pos c, if_pos c, F_isEmpty, fb_mk, ite_10]
    by_cases c2 : (gi σ (52 + 2 * a1.toNatClampNeg) 1).toInt < 0
    · rw [if_pos c2, if_pos c2]
    · rw [if_neg c2, if_neg c2, F_has, fb_mk, ite_10, F_cut, fb_mk]
      rfl
  · rw [if_neg c, if_neg c]
theorem N_mitem {a1 a2 : Int32} {a3 : Int64} {σ : Sg} (h0 : 0 ≤ (gi σ 172 a1.toNatClampNeg).toInt) (h1 : (gi σ 172 a1.toNatClampNeg).toInt ≤ 60) : F_X12_item a1 a2 a3 σ = if 0 ≤ a1.toInt ∧ a1.toInt ≤ 5 then (if (gi σ 171 a1.toNatClampNeg).toInt < 0 then ((-11 : Int32), σ) else if 0 ≤ a2.toInt ∧ a2.toInt < (gi σ 172 a1.toNatClampNeg).toInt then ((1 : Int32), sl σ 173 (60 * a1.toNatClampNeg + a2.toNatClampNeg) (cutv (gi σ 171 a1.toNatClampNeg) a3)) else ((-13 : Int32), σ)) else ((-1 : Int32), σ) := by
  unfold F_X12_item
  rw [F_misTape, fb_mk, ite_10]
  by_cases c : 0 ≤ a1.toInt ∧ a1.toInt ≤ 5
  · rw [if_pos c, if_pos c]
    by_cases c2 : (gi σ 171 a1.toNatClampNeg).toInt < 0
    · rw [if_neg (i_nle c2), if_pos c2]
    · rw [if_pos (i_le (by show (0 : Int) ≤ _; omega)), if_neg c2, F_in, fb_mk, ite_10]
      have e : ((gi σ 172 a1.toNatClampNeg) - (1 : Int32)).toInt = (gi σ 172 a1.toNatClampNeg).toInt - 1 := i_sub (y := (1 : Int32)) (by show (_ : Int) ≤ (gi σ 172 a1.toNatClampNeg).toInt - 1; omega) (by show (gi σ 172 a1.toNatClampNeg).toInt - 1 ≤ (_ : Int); omega)
      have z : (0 : Int32).toInt = 0 := rfl
      by_cases c3 : 0 ≤ a2.toInt ∧ a2.toInt < (gi σ 172 a1.toNatClampNeg).toInt
      · rw [if_pos (by rw [e]; omega), if_pos c3, F_narrow, fb_mk]
        have k1 : ((60 : Int32) * a1).toInt = 60 * a1.toInt := i_mull rfl (by omega) (by omega)
        have k2 : (((60 : Int32) * a1) + a2).toInt = ((60 : Int32) * a1).toInt + a2.toInt := i_add (by show (_ : Int) ≤ ((60 : Int32) * a1).toInt + a2.toInt; omega) (by show ((60 : Int32) * a1).toInt + a2.toInt ≤ (_ : Int); omega)
        have k3 : (((60 : Int32) * a1) + a2).toNatClampNeg = 60 * a1.toNatClampNeg + a2.toNatClampNeg := by
          have q1 := cl_eq (x := ((60 : Int32) * a1) + a2) (by omega)
          have q2 := cl_eq (x := a1) (by omega)
          have q3 := cl_eq (x := a2) (by omega)
          omega
        show ((1 : Int32), sl σ 173 (((60 : Int32) * a1) + a2).toNatClampNeg (cutv (gi σ 171 a1.toNatClampNeg) a3)) = _
        rw [k3]
      · rw [if_neg (by rw [e]; omega), if_neg c3]
  · rw [if_neg c, if_neg c]
theorem N_xread {a1 a2 : Int32} {σ : Sg} : F_X11_read a1 a2 σ = if 0 ≤ a1.toInt ∧ a1.toInt ≤ 5 then (if 0 ≤ a2.toInt ∧ a2.toInt < (gi σ (52 + 2 * a1.toNatClampNeg) 2).toInt then (gl σ (52 + 2 * a1.toNatClampNeg + 1) a2.toNatClampNeg, σ) else ((-9223372036854775808 : Int64), σ)) else ((-9223372036854775808 : Int64), σ) := by
  unfold F_X11_read
  rw [F_isTape, fb_mk, ite_10]
  by_cases c : 0 ≤ a1.toInt ∧ a1.toInt ≤ 5
  · rw [if_pos c, if_pos c, F_has, fb_mk, ite_10]
  · rw [if_neg c, if_neg c]
theorem N_mread {a1 a2 : Int32} {σ : Sg} (h0 : 0 ≤ (gi σ 172 a1.toNatClampNeg).toInt) (h1 : (gi σ 172 a1.toNatClampNeg).toInt ≤ 60) : F_X12_read a1 a2 σ = if 0 ≤ a1.toInt ∧ a1.toInt ≤ 5 then (if (gi σ 171 a1.toNatClampNeg).toInt < 0 then ((-9223372036854775808 : Int64), σ) else if 0 ≤ a2.toInt ∧ a2.toInt < (gi σ 172 a1.toNatClampNeg).toInt then (gl σ 173 (60 * a1.toNatClampNeg + a2.toNatClampNeg), σ) else ((-9223372036854775808 : Int64), σ)) else ((-9223372036854775808 : Int64), σ) := by
  unfold F_X12_read
  rw [F_misTape, fb_mk, ite_10]
  by_cases c : 0 ≤ a1.toInt ∧ a1.toInt ≤ 5
  · rw [if_pos c, if_pos c]
    by_cases c2 : (gi σ 171 a1.toNatClampNeg).toInt < 0
    · rw [if_pos (i_lt0 c2), if_pos c2]
    · rw [if_neg (i_nlt0 (by omega)), if_neg c2, F_in, fb_mk, ite_10]
      have e : ((gi σ 172 a1.toNatClampNeg) - (1 : Int32)).toInt = (gi σ 172 a1.toNatClampNeg).toInt - 1 := i_sub (y := (1 : Int32)) (by show (_ : Int) ≤ (gi σ 172 a1.toNatClampNeg).toInt - 1; omega) (by show (gi σ 172 a1.toNatClampNeg).toInt - 1 ≤ (_ : Int); omega)
      have z : (0 : Int32).toInt = 0 := rfl
      by_cases c3 : 0 ≤ a2.toInt ∧ a2.toInt < (gi σ 172 a1.toNatClampNeg).toInt
      · rw [if_pos (by rw [e]; omega), if_pos c3]
        have k1 : ((60 : Int32) * a1).toInt = 60 * a1.toInt := i_mull rfl (by omega) (by omega)
        have k2 : (((60 : Int32) * a1) + a2).toInt = ((60 : Int32) * a1).toInt + a2.toInt := i_add (by show (_ : Int) ≤ ((60 : Int32) * a1).toInt + a2.toInt; omega) (by show ((60 : Int32) * a1).toInt + a2.toInt ≤ (_ : Int); omega)
        have k3 : (((60 : Int32) * a1) + a2).toNatClampNeg = 60 * a1.toNatClampNeg + a2.toNatClampNeg := by
          have q1 := cl_eq (x := ((60 : Int32) * a1) + a2) (by omega)
          have q2 := cl_eq (x := a1) (by omega)
          have q3 := cl_eq (x := a2) (by omega)
          omega
        rw [k3]
      · rw [if_neg (by rw [e]; omega), if_neg c3]
  · rw [if_neg c, if_neg c]
theorem sla_self {σ : Sg} {a : Nat} {g : Nat → Int64} (h : ∀ j, g j = gl σ a j) : sla σ a g = σ := by
  have e : va_up σ.2.1 a g = σ.2.1 := by
    funext b
    unfold va_up
    by_cases q : b = a
    · rw [if_pos q, q]; funext j; exact h j
    · rw [if_neg q]
  show (σ.1, va_up σ.2.1 a g, σ.2.2) = σ
  rw [e]
theorem sla_sla {σ : Sg} {a : Nat} {g h : Nat → Int64} : sla (sla σ a g) a h = sla σ a h := by
  have e : va_up (va_up σ.2.1 a g) a h = va_up σ.2.1 a h := by
    funext b
    unfold va_up
    by_cases q : b = a
    · rw [if_pos q, if_pos q]
    · rw [if_neg q, if_neg q, if_neg q]
  show (σ.1, va_up (va_up σ.2.1 a g) a h, σ.2.2) = _
  rw [e]
  rfl
theorem sla_ext {σ : Sg} {a : Nat} {g h : Nat → Int64} (e : ∀ j, g j = h j) : sla σ a g = sla σ a h := by rw [funext e]
theorem sl_sla {σ : Sg} {a k : Nat} {v : Int64} : sl σ a k v = sla σ a (fun j => if j = k then v else gl σ a j) := rfl
theorem LF_fill {a : Nat} {v : Int64} : ∀ (n : Nat) (x3 : Int32) (σ : Sg), 0 ≤ x3.toInt → x3.toInt ≤ 60 → (60 - x3.toInt).toNat < n → LF_J7_fill_d0a16 a n v x3 60 σ = sla σ a (fun j => if x3.toNatClampNeg ≤ j ∧ j < 60 then v else gl σ a j) := by
  intro n
  induction n with
  | zero => intro x3 σ _ _ h; exact absurd h (Nat.not_lt_zero _)
  | succ n ih =>
    intro x3 σ h0 h6 hn
    show LB_J7_fill_d0a16_6 a (LF_J7_fill_d0a16 a n) v x3 60 σ = _
    have ec := cl_eq h0
    unfold LB_J7_fill_d0a16_6
    by_cases c : (60 : Int) ≤ x3.toInt
    · rw [if_pos (i_le (a := (60 : Int32)) c)]
      exact (sla_self (fun j => by rw [if_neg (by omega)])).symm
    · rw [if_neg (i_nle (by show x3.toInt < 60; omega))]
      have e1 : (x3 + 1).toInt = x3.toInt + 1 := i_add (y := (1 : Int32)) (by show (_ : Int) ≤ x3.toInt + 1; omega) (by show x3.toInt + 1 ≤ (_ : Int); omega)
      have ec1 := cl_eq (x := x3 + 1) (by omega)
      show LF_J7_fill_d0a16 a n v (x3 + 1) 60 (sl σ a x3.toNatClampNeg v) = _
      rw [ih (x3 + 1) _ (by omega) (by omega) (by omega), sl_sla, sla_sla]
      refine sla_ext (fun j => ?_)
      rw [gl_sla, if_pos rfl]
      by_cases q : j = x3.toNatClampNeg
      · rw [if_neg (by omega), if_pos q, if_pos (by omega)]
      · rw [if_neg q]
        by_cases q2 : x3.toNatClampNeg ≤ j ∧ j < 60
        · rw [if_pos (by omega), if_pos q2]
        · rw [if_neg (by omega), if_neg q2]
theorem F_fill {a : Nat} {v : Int64} {σ : Sg} : F_J7_fill_d0a16 a v σ = sla σ a (fun j => if j < 60 then v else gl σ a j) := by
  unfold F_J7_fill_d0a16
  rw [fl_mk, show Int32.ofNat 60 = (60 : Int32) from rfl, LF_fill 90 0 σ (by decide +kernel) (by decide +kernel) (by decide +kernel)]
  refine sla_ext (fun j => ?_)
  have z : (0 : Int32).toNatClampNeg = 0 := by decide +kernel
  rw [z]
  by_cases q : j < 60
  · rw [if_pos ⟨Nat.zero_le _, q⟩, if_pos q]
  · rw [if_neg (fun h => q h.2), if_neg q]
/-- a tape laid anew: the class's, the model's -/
noncomputable def TX (σ : Sg) (c : Nat) (s n : Int32) : Sg := sla (si (si σ c 1 s) c 2 n) (c + 1) (fun j => if j < 60 then 0 else gl σ (c + 1) j)
noncomputable def TM (σ : Sg) (t : Nat) (s n : Int32) : Sg := sla (si (si σ 171 t s) 172 t n) 173 (fun j => if 60 * t ≤ j ∧ j < 60 * t + 60 then 0 else gl σ 173 j)
theorem F_becomes {c : Nat} {s n : Int32} {σ : Sg} : F_X9_becomes c s n σ = TX σ c s n := by
  unfold F_X9_becomes TX
  rw [fl_mk, fl_mk, fl_mk, F_fill]
  rfl
theorem LF_mtape {a b x1 : Int32} (h0 : 0 ≤ x1.toInt) (h5 : x1.toInt ≤ 5) : ∀ (n : Nat) (x4 : Int32) (σ : Sg), 0 ≤ x4.toInt → x4.toInt ≤ 60 → (60 - x4.toInt).toNat < n → LF_X12_tape n 1 x1 a b x4 σ = ((1 : Int32), sla σ 173 (fun j => if 60 * x1.toNatClampNeg + x4.toNatClampNeg ≤ j ∧ j < 60 * x1.toNatClampNeg + 60 then 0 else gl σ 173 j)) := by
  intro n
  induction n generalizing a b with
  | zero => intro x4 σ _ _ h; exact absurd h (Nat.not_lt_zero _)
  | succ n ih =>
    intro x4 σ g0 g6 hn
    show LB_X12_tape_69 (LF_X12_tape n) x1 x4 σ = _
    have ec := cl_eq g0
    have ed := cl_eq h0
    unfold LB_X12_tape_69
    by_cases c : (60 : Int) ≤ x4.toInt
    · rw [if_pos (i_le (a := (60 : Int32)) c), sla_self (fun j => by rw [if_neg (by omega)])]
    · rw [if_neg (i_nle (by show x4.toInt < 60; omega))]
      have e1 : (x4 + 1).toInt = x4.toInt + 1 := i_add (y := (1 : Int32)) (by show (_ : Int) ≤ x4.toInt + 1; omega) (by show x4.toInt + 1 ≤ (_ : Int); omega)
      have ec1 := cl_eq (x := x4 + 1) (by omega)
      have k1 : ((60 : Int32) * x1).toInt = 60 * x1.toInt := i_mull rfl (by omega) (by omega)
      have k2 : (((60 : Int32) * x1) + x4).toInt = ((60 : Int32) * x1).toInt + x4.toInt := i_add (by show (_ : Int) ≤ ((60 : Int32) * x1).toInt + x4.toInt; omega) (by show ((60 : Int32) * x1).toInt + x4.toInt ≤ (_ : Int); omega)
      have k3 := cl_eq (x := ((60 : Int32) * x1) + x4) (by omega)
      show LF_X12_tape n 1 x1 0 0 (x4 + 1) (sl σ 173 (((60 : Int32) * x1) + x4).toNatClampNeg 0) = _
      rw [ih (x4 + 1) _ (by omega) (by omega) (by omega), sl_sla, sla_sla]
      congr 1
      refine sla_ext (fun j => ?_)
      rw [gl_sla, if_pos rfl]
      by_cases q : j = (((60 : Int32) * x1) + x4).toNatClampNeg
      · rw [if_neg (by omega), if_pos q, if_pos (by omega)]
      · rw [if_neg q]
        by_cases q2 : 60 * x1.toNatClampNeg + x4.toNatClampNeg ≤ j ∧ j < 60 * x1.toNatClampNeg + 60
        · rw [if_pos (by omega), if_pos q2]
        · rw [if_neg (by omega), if_neg q2]
theorem LF_mtape0 {x1 x2 x3 x4 : Int32} {σ : Sg} (h0 : 0 ≤ x1.toInt) (h5 : x1.toInt ≤ 5) : ∀ n : Nat, 100 < n → LF_X12_tape n 0 x1 x2 x3 x4 σ = ((1 : Int32), TM σ x1.toNatClampNeg x2 (if 0 ≤ x2.toInt then x3 else 0)) := by
  intro n hn
  cases n with
  | zero => exact absurd hn (Nat.not_lt_zero _)
  | succ n =>
    show LB_X12_tape_44 (LF_X12_tape n) x1 x2 x3 σ = _
    have z : (0 : Int32).toNatClampNeg = 0 := by decide +kernel
    have k : (60 - (0 : Int32).toInt).toNat < n := by show (60 - (0 : Int)).toNat < n; omega
    unfold LB_X12_tape_44
    simp only [fl_mk]
    rw [LF_mtape h0 h5 n 0 _ (by decide +kernel) (by decide +kernel) k, LF_mtape h0 h5 n 0 _ (by decide +kernel) (by decide +kernel) k, z]
    unfold TM
    by_cases c : 0 ≤ x2.toInt
    · rw [if_pos (i_le (a := (0 : Int32)) c), if_pos c]
      rfl
    · rw [if_neg (i_nle (a := (0 : Int32)) (by show x2.toInt < 0; omega)), if_neg c]
      rfl
theorem N_xtape {a1 a2 a3 : Int32} {σ : Sg} : F_X11_tape a1 a2 a3 σ = if 0 ≤ a1.toInt ∧ a1.toInt ≤ 5 then (if a2.toInt = -1 then ((1 : Int32), TX σ (52 + 2 * a1.toNatClampNeg) (-1) 0) else if a2.toInt < -1 ∨ 4 < a2.toInt ∨ 60 < a3.toInt then ((-2 : Int32), σ) else if a3.toInt < 0 then ((-14 : Int32), σ) else ((1 : Int32), TX σ (52 + 2 * a1.toNatClampNeg) a2 a3)) else ((-1 : Int32), σ) := by
  unfold F_X11_tape
  rw [F_isTape, fb_mk, ite_10]
  simp only [F_becomes, fl_mk, Int32.lt_iff_toInt_lt, Int32.le_iff_toInt_le, ← Int32.toInt_inj]
  have z0 : (0 : Int32).toInt = 0 := rfl
  have z1 : (-1 : Int32).toInt = -1 := rfl
  have z4 : (4 : Int32).toInt = 4 := rfl
  have z60 : (60 : Int32).toInt = 60 := rfl
  (repeat' split) <;> first | rfl | (exfalso; omega)
theorem N_mtape {a1 a2 a3 : Int32} {σ : Sg} : F_X12_tape a1 a2 a3 σ = if 0 ≤ a1.toInt ∧ a1.toInt ≤ 5 then (if a2.toInt = -1 then ((1 : Int32), TM σ a1.toNatClampNeg a2 0) else if a2.toInt < -1 ∨ 4 < a2.toInt ∨ 60 < a3.toInt then ((-2 : Int32), σ) else if a3.toInt < 0 then ((-14 : Int32), σ) else ((1 : Int32), TM σ a1.toNatClampNeg a2 a3)) else ((-1 : Int32), σ) := by
  unfold F_X12_tape
  rw [F_misTape, fb_mk, ite_10]
  have z0 : (0 : Int32).toInt = 0 := rfl
  have z1 : (-1 : Int32).toInt = -1 := rfl
  have z4 : (4 : Int32).toInt = 4 := rfl
  have z60 : (60 : Int32).toInt = 60 := rfl
  by_cases c : 0 ≤ a1.toInt ∧ a1.toInt ≤ 5
  · rw [if_pos c, if_pos c, F_in, fb_mk, ite_10, LF_mtape0 c.1 c.2 200 (by decide +kernel)]
    simp only [Int32.lt_iff_toInt_lt, Int32.le_iff_toInt_le]
    (repeat' split) <;> first | rfl | (exfalso; omega)
  · rw [if_neg c, if_neg c]
theorem N_xshift {a1 a2 a3 a4 a5 : Int32} {σ : Sg} (h0 : 0 ≤ a1.toInt → a1.toInt ≤ 5 → 0 ≤ (gi σ (52 + 2 * a1.toNatClampNeg) 2).toInt ∧ (gi σ (52 + 2 * a1.toNatClampNeg) 2).toInt ≤ 60) (h1 : 0 ≤ a3.toInt → a3.toInt ≤ 5 → 0 ≤ (gi σ (52 + 2 * a3.toNatClampNeg) 2).toInt ∧ (gi σ (52 + 2 * a3.toNatClampNeg) 2).toInt ≤ 60) : F_X11_shift a1 a2 a3 a4 a5 σ = if (0 ≤ a1.toInt ∧ a1.toInt ≤ 5) ∧ (0 ≤ a3.toInt ∧ a3.toInt ≤ 5) then (if (gi σ (52 + 2 * a1.toNatClampNeg) 1).toInt < 0 ∨ (gi σ (52 + 2 * a3.toNatClampNeg) 1).toInt < 0 then ((-11 : Int32), σ) else if (gi σ (52 + 2 * a1.toNatClampNeg) 1).toInt = (gi σ (52 + 2 * a3.toNatClampNeg) 1).toInt then (if (0 ≤ a5.toInt ∧ 0 ≤ a2.toInt ∧ a2.toInt ≤ (gi σ (52 + 2 * a1.toNatClampNeg) 2).toInt - a5.toInt) ∧ (0 ≤ a5.toInt ∧ 0 ≤ a4.toInt ∧ a4.toInt ≤ (gi σ (52 + 2 * a3.toNatClampNeg) 2).toInt - a5.toInt) then (a5, sla σ (52 + 2 * a3.toNatClampNeg + 1) (va_cpy (σ.2.1 (52 + 2 * a1.toNatClampNeg + 1)) (σ.2.1 (52 + 2 * a3.toNatClampNeg + 1)) a2.toNatClampNeg a4.toNatClampNeg a5.toNatClampNeg)) else ((-13 : Int32), σ)) else ((-12 : Int32), σ)) else ((-1 : Int32), σ) := by
  unfold F_X11_shift
  rw [F_isTape, fb_mk, ite_10]
  by_cases c : 0 ≤ a1.toInt ∧ a1.toInt ≤ 5
  · rw [if_pos c, F_isTape, fb_mk, ite_10]
    by_cases c3 : 0 ≤ a3.toInt ∧ a3.toInt ≤ 5
    · obtain ⟨p0, p1⟩ := h0 c.1 c.2
      obtain ⟨p2, p3⟩ := h1 c3.1 c3.2
      rw [if_pos c3, if_pos (And.intro c c3), F_isEmpty, fb_mk, ite_10]
      by_cases d : (gi σ (52 + 2 * a1.toNatClampNeg) 1).toInt < 0
      · rw [if_pos d, if_pos (Or.inl d)]
      rw [if_neg d, F_isEmpty, fb_mk, ite_10]
      by_cases d3 : (gi σ (52 + 2 * a3.toNatClampNeg) 1).toInt < 0
      · rw [if_pos d3, if_pos (Or.inr d3)]
      rw [if_neg d3, if_neg (show ¬ ((gi σ (52 + 2 * a1.toNatClampNeg) 1).toInt < 0 ∨ (gi σ (52 + 2 * a3.toNatClampNeg) 1).toInt < 0) by omega)]
      by_cases e : (gi σ (52 + 2 * a1.toNatClampNeg) 1).toInt = (gi σ (52 + 2 * a3.toNatClampNeg) 1).toInt
      · rw [if_pos (i_eq e), if_pos e, F_hasPart p0 p1, fb_mk, ite_10]
        by_cases g : 0 ≤ a5.toInt ∧ 0 ≤ a2.toInt ∧ a2.toInt ≤ (gi σ (52 + 2 * a1.toNatClampNeg) 2).toInt - a5.toInt
        · rw [if_pos g, F_hasPart p2 p3, fb_mk, ite_10]
          by_cases g3 : 0 ≤ a5.toInt ∧ 0 ≤ a4.toInt ∧ a4.toInt ≤ (gi σ (52 + 2 * a3.toNatClampNeg) 2).toInt - a5.toInt
          · rw [if_pos g3, if_pos (And.intro g g3)]; rfl
          · rw [if_neg g3, if_neg (fun h => g3 h.2)]
        · rw [if_neg g, if_neg (fun h => g h.1)]
      · rw [if_neg (i_ne e), if_neg e]
    · rw [if_neg c3, if_neg (fun h => c3 h.2)]
  · rw [if_neg c, if_neg (fun h => c h.1)]
theorem LF_mshift1 {x1 x2 x3 x4 x5 : Int32} (h30 : 0 ≤ x3.toInt) (h35 : x3.toInt ≤ 5) (h40 : 0 ≤ x4.toInt) (h50 : 0 ≤ x5.toInt) (h45 : x4.toInt + x5.toInt ≤ 60) : ∀ (n : Nat) (x6 : Int32) (σ : Sg), 0 ≤ x6.toInt → x6.toInt ≤ x5.toInt → (60 - x6.toInt).toNat < n → LF_X12_shift n 1 x1 x2 x3 x4 x5 x6 σ = (x5, sla σ 173 (fun j => if 60 * x3.toNatClampNeg + x4.toNatClampNeg + x6.toNatClampNeg ≤ j ∧ j < 60 * x3.toNatClampNeg + x4.toNatClampNeg + x5.toNatClampNeg then gl σ 174 (j - (60 * x3.toNatClampNeg + x4.toNatClampNeg)) else gl σ 173 j)) := by
  intro n
  induction n generalizing x1 x2 with
  | zero => intro x6 σ _ _ h; exact absurd h (Nat.not_lt_zero _)
  | succ n ih =>
    intro x6 σ g0 g6 hn
    show LB_X12_shift_141 (LF_X12_shift n) x3 x4 x5 x6 σ = _
    have c3 := cl_eq h30
    have c4 := cl_eq h40
    have c5 := cl_eq h50
    have c6 := cl_eq g0
    unfold LB_X12_shift_141
    by_cases c : x5.toInt ≤ x6.toInt
    · rw [if_pos (i_le c), sla_self (fun j => by rw [if_neg (by omega)])]
    · rw [if_neg (i_nle (by omega))]
      have e1 : (x6 + 1).toInt = x6.toInt + 1 := i_add (y := (1 : Int32)) (by show (_ : Int) ≤ x6.toInt + 1; omega) (by show x6.toInt + 1 ≤ (_ : Int); omega)
      have ec1 := cl_eq (x := x6 + 1) (by omega)
      have k1 : ((60 : Int32) * x3).toInt = 60 * x3.toInt := i_mull rfl (by omega) (by omega)
      have k2 : (((60 : Int32) * x3) + x4).toInt = ((60 : Int32) * x3).toInt + x4.toInt := i_add (by show (_ : Int) ≤ ((60 : Int32) * x3).toInt + x4.toInt; omega) (by show ((60 : Int32) * x3).toInt + x4.toInt ≤ (_ : Int); omega)
      have k3 : ((((60 : Int32) * x3) + x4) + x6).toInt = (((60 : Int32) * x3) + x4).toInt + x6.toInt := i_add (by show (_ : Int) ≤ (((60 : Int32) * x3) + x4).toInt + x6.toInt; omega) (by show (((60 : Int32) * x3) + x4).toInt + x6.toInt ≤ (_ : Int); omega)
      have k4 := cl_eq (x := (((60 : Int32) * x3) + x4) + x6) (by omega)
      show LF_X12_shift n 1 0 0 x3 x4 x5 (x6 + 1) (sl σ 173 ((((60 : Int32) * x3) + x4) + x6).toNatClampNeg (gl σ 174 x6.toNatClampNeg)) = _
      rw [ih (x6 + 1) _ (by omega) (by omega) (by omega), sl_sla, sla_sla]
      congr 1
      refine sla_ext (fun j => ?_)
      rw [gl_sla, if_neg (show ¬ (174 : Nat) = 173 by decide +kernel), gl_sla, if_pos rfl]
      by_cases q : j = ((((60 : Int32) * x3) + x4) + x6).toNatClampNeg
      · rw [if_neg (by omega), if_pos q, if_pos (by omega), show j - (60 * x3.toNatClampNeg + x4.toNatClampNeg) = x6.toNatClampNeg by omega]
      · rw [if_neg q]
        by_cases q2 : 60 * x3.toNatClampNeg + x4.toNatClampNeg + x6.toNatClampNeg ≤ j ∧ j < 60 * x3.toNatClampNeg + x4.toNatClampNeg + x5.toNatClampNeg
        · rw [if_pos (by omega), if_pos q2]
        · rw [if_neg (by omega), if_neg q2]
theorem LF_mshift0 {x1 x2 x3 x4 x5 : Int32} (h10 : 0 ≤ x1.toInt) (h15 : x1.toInt ≤ 5) (h20 : 0 ≤ x2.toInt) (h25 : x2.toInt + x5.toInt ≤ 60) (h30 : 0 ≤ x3.toInt) (h35 : x3.toInt ≤ 5) (h40 : 0 ≤ x4.toInt) (h50 : 0 ≤ x5.toInt) (h45 : x4.toInt + x5.toInt ≤ 60) : ∀ (n : Nat) (x6 : Int32) (σ : Sg), 0 ≤ x6.toInt → x6.toInt ≤ x5.toInt → (60 - x6.toInt).toNat + 100 < n → LF_X12_shift n 0 x1 x2 x3 x4 x5 x6 σ = (x5, sla (sla σ 174 (fun j => if x6.toNatClampNeg ≤ j ∧ j < x5.toNatClampNeg then gl σ 173 (60 * x1.toNatClampNeg + x2.toNatClampNeg + j) else gl σ 174 j)) 173 (fun j => if 60 * x3.toNatClampNeg + x4.toNatClampNeg ≤ j ∧ j < 60 * x3.toNatClampNeg + x4.toNatClampNeg + x5.toNatClampNeg then (if x6.toNatClampNeg ≤ j - (60 * x3.toNatClampNeg + x4.toNatClampNeg) then gl σ 173 (60 * x1.toNatClampNeg + x2.toNatClampNeg + (j - (60 * x3.toNatClampNeg + x4.toNatClampNeg))) else gl σ 174 (j - (60 * x3.toNatClampNeg + x4.toNatClampNeg))) else gl σ 173 j)) := by
  intro n
  induction n with
  | zero => intro x6 σ _ _ h; exact absurd h (Nat.not_lt_zero _)
  | succ n ih =>
    intro x6 σ g0 g6 hn
    show LB_X12_shift_104 (LF_X12_shift n) x1 x2 x3 x4 x5 x6 σ = _
    have c1 := cl_eq h10
    have c2 := cl_eq h20
    have c3 := cl_eq h30
    have c4 := cl_eq h40
    have c5 := cl_eq h50
    have c6 := cl_eq g0
    have z : (0 : Int32).toNatClampNeg = 0 := by decide +kernel
    unfold LB_X12_shift_104
    by_cases c : x5.toInt ≤ x6.toInt
    · rw [if_pos (i_le c), LF_mshift1 h30 h35 h40 h50 h45 n 0 σ (by decide +kernel) (by show (0 : Int) ≤ _; omega) (by show (60 - (0 : Int)).toNat < n; omega), z]
      congr 1
      rw [sla_self (a := 174) (fun j => by rw [if_neg (by omega)])]
      refine sla_ext (fun j => ?_)
      by_cases q2 : 60 * x3.toNatClampNeg + x4.toNatClampNeg ≤ j ∧ j < 60 * x3.toNatClampNeg + x4.toNatClampNeg + x5.toNatClampNeg
      · rw [if_pos (by omega), if_pos q2, if_neg (by omega)]
      · rw [if_neg (by omega), if_neg q2]
    · rw [if_neg (i_nle (by omega))]
      have e1 : (x6 + 1).toInt = x6.toInt + 1 := i_add (y := (1 : Int32)) (by show (_ : Int) ≤ x6.toInt + 1; omega) (by show x6.toInt + 1 ≤ (_ : Int); omega)
      have ec1 := cl_eq (x := x6 + 1) (by omega)
      have k1 : ((60 : Int32) * x1).toInt = 60 * x1.toInt := i_mull rfl (by omega) (by omega)
      have k2 : (((60 : Int32) * x1) + x2).toInt = ((60 : Int32) * x1).toInt + x2.toInt := i_add (by show (_ : Int) ≤ ((60 : Int32) * x1).toInt + x2.toInt; omega) (by show ((60 : Int32) * x1).toInt + x2.toInt ≤ (_ : Int); omega)
      have k3 : ((((60 : Int32) * x1) + x2) + x6).toInt = (((60 : Int32) * x1) + x2).toInt + x6.toInt := i_add (by show (_ : Int) ≤ (((60 : Int32) * x1) + x2).toInt + x6.toInt; omega) (by show (((60 : Int32) * x1) + x2).toInt + x6.toInt ≤ (_ : Int); omega)
      have k4 := cl_eq (x := (((60 : Int32) * x1) + x2) + x6) (by omega)
      show LF_X12_shift n 0 x1 x2 x3 x4 x5 (x6 + 1) (sl σ 174 x6.toNatClampNeg (gl σ 173 ((((60 : Int32) * x1) + x2) + x6).toNatClampNeg)) = _
      rw [ih (x6 + 1) _ (by omega) (by omega) (by omega), sl_sla, sla_sla]
      have e6 : ((((60 : Int32) * x1) + x2) + x6).toNatClampNeg = 60 * x1.toNatClampNeg + x2.toNatClampNeg + x6.toNatClampNeg := by omega
      congr 1
      have ea : sla σ 174 (fun j => if (x6 + 1).toNatClampNeg ≤ j ∧ j < x5.toNatClampNeg then gl (sla σ 174 (fun j => if j = x6.toNatClampNeg then gl σ 173 ((((60 : Int32) * x1) + x2) + x6).toNatClampNeg else gl σ 174 j)) 173 (60 * x1.toNatClampNeg + x2.toNatClampNeg + j) else gl (sla σ 174 (fun j => if j = x6.toNatClampNeg then gl σ 173 ((((60 : Int32) * x1) + x2) + x6).toNatClampNeg else gl σ 174 j)) 174 j) = sla σ 174 (fun j => if x6.toNatClampNeg ≤ j ∧ j < x5.toNatClampNeg then gl σ 173 (60 * x1.toNatClampNeg + x2.toNatClampNeg + j) else gl σ 174 j) := by
        refine sla_ext (fun j => ?_)
        rw [gl_sla, if_neg (show ¬ (173 : Nat) = 174 by decide +kernel), gl_sla, if_pos rfl]
        by_cases q : j = x6.toNatClampNeg
        · rw [if_neg (by omega), if_pos q, if_pos (by omega), e6, q]
        · rw [if_neg q]
          by_cases q2 : x6.toNatClampNeg ≤ j ∧ j < x5.toNatClampNeg
          · rw [if_pos (by omega), if_pos q2]
          · rw [if_neg (by omega), if_neg q2]
      rw [ea]
      refine sla_ext (fun j => ?_)
      rw [gl_sla, if_neg (show ¬ (173 : Nat) = 174 by decide +kernel), gl_sla, if_pos rfl, gl_sla, if_neg (show ¬ (173 : Nat) = 174 by decide +kernel)]
      by_cases q2 : 60 * x3.toNatClampNeg + x4.toNatClampNeg ≤ j ∧ j < 60 * x3.toNatClampNeg + x4.toNatClampNeg + x5.toNatClampNeg
      · rw [if_pos q2, if_pos q2]
        by_cases q : j - (60 * x3.toNatClampNeg + x4.toNatClampNeg) = x6.toNatClampNeg
        · rw [if_neg (by omega), if_pos q, if_pos (by omega), e6, q]
        · rw [if_neg q]
          by_cases q3 : x6.toNatClampNeg ≤ j - (60 * x3.toNatClampNeg + x4.toNatClampNeg)
          · rw [if_pos (by omega), if_pos q3]
          · rw [if_neg (by omega), if_neg q3]
      · rw [if_neg q2, if_neg q2]
/-- the model's row behind a shift -/
noncomputable def SM (σ : Sg) (i j n : Nat) : Sg := sla (sla σ 174 (fun k => if k < n then gl σ 173 (i + k) else gl σ 174 k)) 173 (fun k => if j ≤ k ∧ k < j + n then gl σ 173 (i + (k - j)) else gl σ 173 k)
theorem LF_mshift {x1 x2 x3 x4 x5 : Int32} {σ : Sg} (h10 : 0 ≤ x1.toInt) (h15 : x1.toInt ≤ 5) (h20 : 0 ≤ x2.toInt) (h25 : x2.toInt + x5.toInt ≤ 60) (h30 : 0 ≤ x3.toInt) (h35 : x3.toInt ≤ 5) (h40 : 0 ≤ x4.toInt) (h50 : 0 ≤ x5.toInt) (h45 : x4.toInt + x5.toInt ≤ 60) : LF_X12_shift 300 0 x1 x2 x3 x4 x5 0 σ = (x5, SM σ (60 * x1.toNatClampNeg + x2.toNatClampNeg) (60 * x3.toNatClampNeg + x4.toNatClampNeg) x5.toNatClampNeg) := by
  rw [LF_mshift0 h10 h15 h20 h25 h30 h35 h40 h50 h45 300 0 σ (by decide +kernel) (by show (0 : Int) ≤ _; omega) (by decide +kernel)]
  have z : (0 : Int32).toNatClampNeg = 0 := by decide +kernel
  unfold SM
  congr 1
  have ea : sla σ 174 (fun j => if (0 : Int32).toNatClampNeg ≤ j ∧ j < x5.toNatClampNeg then gl σ 173 (60 * x1.toNatClampNeg + x2.toNatClampNeg + j) else gl σ 174 j) = sla σ 174 (fun k => if k < x5.toNatClampNeg then gl σ 173 (60 * x1.toNatClampNeg + x2.toNatClampNeg + k) else gl σ 174 k) := by
    refine sla_ext (fun j => ?_)
    by_cases q : j < x5.toNatClampNeg
    · rw [if_pos (by omega), if_pos q]
    · rw [if_neg (by omega), if_neg q]
  rw [ea]
  refine sla_ext (fun j => ?_)
  by_cases q2 : 60 * x3.toNatClampNeg + x4.toNatClampNeg ≤ j ∧ j < 60 * x3.toNatClampNeg + x4.toNatClampNeg + x5.toNatClampNeg
  · rw [if_pos q2, if_pos q2, if_pos (by omega)]
  · rw [if_neg q2, if_neg q2]
theorem N_mshift {a1 a2 a3 a4 a5 : Int32} {σ : Sg} (h0 : 0 ≤ a1.toInt → a1.toInt ≤ 5 → 0 ≤ (gi σ 172 a1.toNatClampNeg).toInt ∧ (gi σ 172 a1.toNatClampNeg).toInt ≤ 60) (h1 : 0 ≤ a3.toInt → a3.toInt ≤ 5 → 0 ≤ (gi σ 172 a3.toNatClampNeg).toInt ∧ (gi σ 172 a3.toNatClampNeg).toInt ≤ 60) : F_X12_shift a1 a2 a3 a4 a5 σ = if (0 ≤ a1.toInt ∧ a1.toInt ≤ 5) ∧ (0 ≤ a3.toInt ∧ a3.toInt ≤ 5) then (if (gi σ 171 a1.toNatClampNeg).toInt < 0 ∨ (gi σ 171 a3.toNatClampNeg).toInt < 0 then ((-11 : Int32), σ) else if (gi σ 171 a1.toNatClampNeg).toInt = (gi σ 171 a3.toNatClampNeg).toInt then (if (0 ≤ a5.toInt ∧ 0 ≤ a2.toInt ∧ a2.toInt ≤ (gi σ 172 a1.toNatClampNeg).toInt - a5.toInt) ∧ (0 ≤ a5.toInt ∧ 0 ≤ a4.toInt ∧ a4.toInt ≤ (gi σ 172 a3.toNatClampNeg).toInt - a5.toInt) then (a5, SM σ (60 * a1.toNatClampNeg + a2.toNatClampNeg) (60 * a3.toNatClampNeg + a4.toNatClampNeg) a5.toNatClampNeg) else ((-13 : Int32), σ)) else ((-12 : Int32), σ)) else ((-1 : Int32), σ) := by
  unfold F_X12_shift
  rw [F_misTape, fb_mk, ite_10]
  by_cases c : 0 ≤ a1.toInt ∧ a1.toInt ≤ 5
  · rw [if_pos c, F_misTape, fb_mk, ite_10]
    by_cases c3 : 0 ≤ a3.toInt ∧ a3.toInt ≤ 5
    · obtain ⟨p0, p1⟩ := h0 c.1 c.2
      obtain ⟨p2, p3⟩ := h1 c3.1 c3.2
      rw [if_pos c3, if_pos (And.intro c c3)]
      by_cases d : (gi σ 171 a1.toNatClampNeg).toInt < 0
      · rw [if_pos (i_lt0 d), if_pos (Or.inl d)]
      rw [if_neg (i_nlt0 (by omega))]
      by_cases d3 : (gi σ 171 a3.toNatClampNeg).toInt < 0
      · rw [if_neg (i_nle (a := (0 : Int32)) d3), if_pos (Or.inr d3)]
      rw [if_pos (i_le (a := (0 : Int32)) (b := gi σ 171 a3.toNatClampNeg) (by show (0 : Int) ≤ _; omega)), if_neg (show ¬ ((gi σ 171 a1.toNatClampNeg).toInt < 0 ∨ (gi σ 171 a3.toNatClampNeg).toInt < 0) by omega)]
      by_cases e : (gi σ 171 a1.toNatClampNeg).toInt = (gi σ 171 a3.toNatClampNeg).toInt
      · rw [if_pos (i_eq e), if_pos e]
        by_cases f5 : a5.toInt < 0
        · rw [if_pos (i_lt0 f5), if_neg (by omega)]
        rw [if_neg (i_nlt0 (by omega))]
        by_cases f2 : a2.toInt < 0
        · rw [if_pos (i_lt0 f2), if_neg (by omega)]
        rw [if_neg (i_nlt0 (by omega))]
        by_cases f4 : a4.toInt < 0
        · rw [if_pos (i_lt0 f4), if_neg (by omega)]
        rw [if_neg (i_nlt0 (by omega))]
        have e1 : ((gi σ 172 a1.toNatClampNeg) - a5).toInt = (gi σ 172 a1.toNatClampNeg).toInt - a5.toInt := i_sub (by show (_ : Int) ≤ (gi σ 172 a1.toNatClampNeg).toInt - a5.toInt; have := Int32.toInt_lt a5; omega) (by show (gi σ 172 a1.toNatClampNeg).toInt - a5.toInt ≤ (_ : Int); omega)
        have e3 : ((gi σ 172 a3.toNatClampNeg) - a5).toInt = (gi σ 172 a3.toNatClampNeg).toInt - a5.toInt := i_sub (by show (_ : Int) ≤ (gi σ 172 a3.toNatClampNeg).toInt - a5.toInt; have := Int32.toInt_lt a5; omega) (by show (gi σ 172 a3.toNatClampNeg).toInt - a5.toInt ≤ (_ : Int); omega)
        by_cases g : (gi σ 172 a1.toNatClampNeg).toInt - a5.toInt < a2.toInt
        · rw [if_pos (i_lt (by rw [e1]; exact g)), if_neg (by omega)]
        rw [if_neg (i_nlt (by rw [e1]; omega))]
        by_cases g3 : a4.toInt ≤ (gi σ 172 a3.toNatClampNeg).toInt - a5.toInt
        · rw [if_pos (i_le (by rw [e3]; exact g3)), if_pos (by omega), LF_mshift c.1 c.2 (by omega) (by omega) c3.1 c3.2 (by omega) (by omega) (by omega)]
        · rw [if_neg (i_nle (by rw [e3]; omega)), if_neg (by omega)]
      · rw [if_neg (i_ne e), if_neg e]
    · rw [if_neg c3, if_neg (fun h => c3 h.2)]
  · rw [if_neg c, if_neg (fun h => c h.1)]
theorem TAP_T {σ : Sg} {t : Nat} {s n : Int32} (q : TAP σ) (ht : t < 6) (hs : s.toInt < 0 → n.toInt = 0) : TAP (TM (TX σ (52 + 2 * t) s n) t s n) := by
  intro u hu
  obtain ⟨q1, q2, q3, q4⟩ := q u hu
  have A : ∀ k, gi (TM (TX σ (52 + 2 * t) s n) t s n) (52 + 2 * u) k = if u = t ∧ k = 2 then n else if u = t ∧ k = 1 then s else gi σ (52 + 2 * u) k := fun k => by
    unfold TM TX
    rw [gi_sla, gi_si, if_neg (by omega), gi_si, if_neg (by omega), gi_sla, gi_si, gi_si]
    by_cases e : u = t
    · subst e
      by_cases k2 : k = 2 <;> by_cases k1 : k = 1 <;> simp [k1, k2]
    · rw [if_neg (by omega), if_neg (by omega), if_neg (by omega), if_neg (by omega)]
  have B1 : gi (TM (TX σ (52 + 2 * t) s n) t s n) 171 u = if u = t then s else gi σ 171 u := by
    unfold TM TX
    rw [gi_sla, gi_si, if_neg (by omega), gi_si]
    by_cases e : u = t
    · rw [if_pos ⟨rfl, e⟩, if_pos e]
    · rw [if_neg (fun h => e h.2), if_neg e, gi_sla, gi_si, if_neg (by omega), gi_si, if_neg (by omega)]
  have B2 : gi (TM (TX σ (52 + 2 * t) s n) t s n) 172 u = if u = t then n else gi σ 172 u := by
    unfold TM TX
    rw [gi_sla, gi_si]
    by_cases e : u = t
    · rw [if_pos ⟨rfl, e⟩, if_pos e]
    · rw [if_neg (fun h => e h.2), if_neg e, gi_si, if_neg (by omega), gi_sla, gi_si, if_neg (by omega), gi_si, if_neg (by omega)]
  have C : ∀ i, i < 60 → gl (TM (TX σ (52 + 2 * t) s n) t s n) (52 + 2 * u + 1) i = if u = t then 0 else gl σ (52 + 2 * u + 1) i := fun i hi => by
    unfold TM TX
    rw [gl_sla, if_neg (by omega), gl_si, gl_si, gl_sla]
    by_cases e : u = t
    · rw [if_pos (by omega), if_pos hi, if_pos e]
    · rw [if_neg (by omega), if_neg e, gl_si, gl_si]
  have D : ∀ i, i < 60 → gl (TM (TX σ (52 + 2 * t) s n) t s n) 173 (60 * u + i) = if u = t then 0 else gl σ 173 (60 * u + i) := fun i hi => by
    unfold TM TX
    rw [gl_sla, if_pos rfl]
    by_cases e : u = t
    · rw [if_pos (by omega), if_pos e]
    · rw [if_neg (by omega), if_neg e, gl_sla, if_neg (by omega), gl_si, gl_si]
  refine ⟨?_, ?_, ?_, fun i hi => ?_⟩
  · rw [A, B1]
    by_cases e : u = t
    · rw [if_neg (by omega), if_pos ⟨e, rfl⟩, if_pos e]
    · rw [if_neg (by omega), if_neg (fun h => e h.1), if_neg e]; exact q1
  · rw [A, B2]
    by_cases e : u = t
    · rw [if_pos ⟨e, rfl⟩, if_pos e]
    · rw [if_neg (fun h => e h.1), if_neg (fun h => e h.1), if_neg e]; exact q2
  · rw [B1, B2]
    by_cases e : u = t
    · rw [if_pos e, if_pos e]; exact hs
    · rw [if_neg e, if_neg e]; exact q3
  · rw [C i hi, D i hi]
    by_cases e : u = t
    · rw [if_pos e, if_pos e]
    · rw [if_neg e, if_neg e]; exact q4 i hi
/-- tape: both answer alike, and hold alike then -/
theorem TAP_tape {a1 a2 a3 r1 r2 : Int32} {σ σ1 σ2 : Sg} (q : TAP σ) (h1 : F_X11_tape a1 a2 a3 σ = (r1, σ1)) (h2 : F_X12_tape a1 a2 a3 σ1 = (r2, σ2)) : r1 = r2 ∧ TAP σ2 := by
  rw [N_xtape] at h1
  rw [N_mtape] at h2
  by_cases c : 0 ≤ a1.toInt ∧ a1.toInt ≤ 5
  · rw [if_pos c] at h1 h2
    have ec := cl_eq c.1
    by_cases c1 : a2.toInt = -1
    · rw [if_pos c1] at h1 h2
      have ea : a2 = -1 := i_eq (b := (-1 : Int32)) c1
      obtain ⟨rfl, rfl⟩ := Prod.mk.inj h1
      obtain ⟨rfl, rfl⟩ := Prod.mk.inj h2
      rw [ea]
      exact ⟨rfl, TAP_T q (by omega) (fun _ => rfl)⟩
    rw [if_neg c1] at h1 h2
    by_cases c2 : a2.toInt < -1 ∨ 4 < a2.toInt ∨ 60 < a3.toInt
    · rw [if_pos c2] at h1 h2
      obtain ⟨rfl, rfl⟩ := Prod.mk.inj h1
      obtain ⟨rfl, rfl⟩ := Prod.mk.inj h2
      exact ⟨rfl, q⟩
    rw [if_neg c2] at h1 h2
    by_cases c3 : a3.toInt < 0
    · rw [if_pos c3] at h1 h2
      obtain ⟨rfl, rfl⟩ := Prod.mk.inj h1
      obtain ⟨rfl, rfl⟩ := Prod.mk.inj h2
      exact ⟨rfl, q⟩
    rw [if_neg c3] at h1 h2
    obtain ⟨rfl, rfl⟩ := Prod.mk.inj h1
    obtain ⟨rfl, rfl⟩ := Prod.mk.inj h2
    exact ⟨rfl, TAP_T q (by omega) (fun h => by omega)⟩
  · rw [if_neg c] at h1 h2
    obtain ⟨rfl, rfl⟩ := Prod.mk.inj h1
    obtain ⟨rfl, rfl⟩ := Prod.mk.inj h2
    exact ⟨rfl, q⟩
theorem TAP_I {σ : Sg} {t k : Nat} {v : Int64} (q : TAP σ) (ht : t < 6) (hk : k < 60) : TAP (sl (sl σ (52 + 2 * t + 1) k v) 173 (60 * t + k) v) := by
  intro u hu
  obtain ⟨q1, q2, q3, q4⟩ := q u hu
  refine ⟨q1, q2, q3, fun i hi => ?_⟩
  rw [gl_sl, if_neg (by omega), gl_sl, gl_sl]
  by_cases e : u = t ∧ i = k
  · rw [if_pos (by omega), if_pos (by omega)]
  · rw [if_neg (by omega), if_neg (by omega), gl_sl, if_neg (by omega)]; exact q4 i hi
theorem TAP_item {a1 a2 r1 r2 : Int32} {a3 : Int64} {σ σ1 σ2 : Sg} (hb : ∀ t : Nat, t < 6 → 0 ≤ (gi σ (52 + 2 * t) 2).toInt ∧ (gi σ (52 + 2 * t) 2).toInt ≤ 60) (q : TAP σ) (h1 : F_X11_item a1 a2 a3 σ = (r1, σ1)) (h2 : F_X12_item a1 a2 a3 σ1 = (r2, σ2)) : r1 = r2 ∧ TAP σ2 := by
  rw [N_xitem] at h1
  by_cases c : 0 ≤ a1.toInt ∧ a1.toInt ≤ 5
  · have ec := cl_eq c.1
    have ht : a1.toNatClampNeg < 6 := by omega
    obtain ⟨q1, q2, q3, q4⟩ := q _ ht
    obtain ⟨b1, b2⟩ := hb _ ht
    have e1 : gi σ1 171 a1.toNatClampNeg = gi σ 171 a1.toNatClampNeg ∧ gi σ1 172 a1.toNatClampNeg = gi σ 172 a1.toNatClampNeg := by
      rw [if_pos c] at h1
      by_cases d : (gi σ (52 + 2 * a1.toNatClampNeg) 1).toInt < 0
      · rw [if_pos d] at h1; obtain ⟨-, rfl⟩ := Prod.mk.inj h1; exact ⟨rfl, rfl⟩
      rw [if_neg d] at h1
      by_cases d2 : 0 ≤ a2.toInt ∧ a2.toInt < (gi σ (52 + 2 * a1.toNatClampNeg) 2).toInt
      · rw [if_pos d2] at h1; obtain ⟨-, rfl⟩ := Prod.mk.inj h1; exact ⟨rfl, rfl⟩
      · rw [if_neg d2] at h1; obtain ⟨-, rfl⟩ := Prod.mk.inj h1; exact ⟨rfl, rfl⟩
    rw [N_mitem (by rw [e1.2, ← q2]; exact b1) (by rw [e1.2, ← q2]; exact b2), e1.1, e1.2, ← q1, ← q2] at h2
    rw [if_pos c] at h1 h2
    by_cases d : (gi σ (52 + 2 * a1.toNatClampNeg) 1).toInt < 0
    · rw [if_pos d] at h1 h2
      obtain ⟨rfl, rfl⟩ := Prod.mk.inj h1
      obtain ⟨rfl, rfl⟩ := Prod.mk.inj h2
      exact ⟨rfl, q⟩
    rw [if_neg d] at h1 h2
    by_cases d2 : 0 ≤ a2.toInt ∧ a2.toInt < (gi σ (52 + 2 * a1.toNatClampNeg) 2).toInt
    · rw [if_pos d2] at h1 h2
      obtain ⟨rfl, rfl⟩ := Prod.mk.inj h1
      obtain ⟨rfl, rfl⟩ := Prod.mk.inj h2
      have ek := cl_eq d2.1
      exact ⟨rfl, TAP_I q ht (by omega)⟩
    · rw [if_neg d2] at h1 h2
      obtain ⟨rfl, rfl⟩ := Prod.mk.inj h1
      obtain ⟨rfl, rfl⟩ := Prod.mk.inj h2
      exact ⟨rfl, q⟩
  · rw [if_neg c] at h1
    obtain ⟨rfl, rfl⟩ := Prod.mk.inj h1
    unfold F_X12_item at h2
    rw [F_misTape, fb_mk, ite_10, if_neg c] at h2
    obtain ⟨rfl, rfl⟩ := Prod.mk.inj h2
    exact ⟨rfl, q⟩
/-- read: both answer alike -/
theorem TAP_read {a1 a2 : Int32} {r1 r2 : Int64} {σ σ1 σ2 : Sg} (hb : ∀ t : Nat, t < 6 → 0 ≤ (gi σ (52 + 2 * t) 2).toInt ∧ (gi σ (52 + 2 * t) 2).toInt ≤ 60) (q : TAP σ) (h1 : F_X11_read a1 a2 σ = (r1, σ1)) (h2 : F_X12_read a1 a2 σ1 = (r2, σ2)) : r1 = r2 := by
  rw [N_xread] at h1
  by_cases c : 0 ≤ a1.toInt ∧ a1.toInt ≤ 5
  · have ec := cl_eq c.1
    have ht : a1.toNatClampNeg < 6 := by omega
    obtain ⟨q1, q2, q3, q4⟩ := q _ ht
    obtain ⟨b1, b2⟩ := hb _ ht
    rw [if_pos c] at h1
    have e1 : σ1 = σ := by
      by_cases d2 : 0 ≤ a2.toInt ∧ a2.toInt < (gi σ (52 + 2 * a1.toNatClampNeg) 2).toInt
      · rw [if_pos d2] at h1; exact (Prod.mk.inj h1).2.symm
      · rw [if_neg d2] at h1; exact (Prod.mk.inj h1).2.symm
    subst e1
    rw [N_mread (by rw [← q2]; exact b1) (by rw [← q2]; exact b2), if_pos c, ← q2] at h2
    rw [← q2] at q3
    by_cases d2 : 0 ≤ a2.toInt ∧ a2.toInt < (gi σ1 (52 + 2 * a1.toNatClampNeg) 2).toInt
    · have ek := cl_eq d2.1
      rw [if_pos d2] at h1 h2
      rw [if_neg (fun h => by have := q3 h; omega)] at h2
      rw [← (Prod.mk.inj h1).1, ← (Prod.mk.inj h2).1]
      exact q4 _ (by omega)
    · rw [if_neg d2] at h1 h2
      rw [← (Prod.mk.inj h1).1]
      by_cases d : (gi σ1 171 a1.toNatClampNeg).toInt < 0
      · rw [if_pos d] at h2; exact (Prod.mk.inj h2).1
      · rw [if_neg d] at h2; exact (Prod.mk.inj h2).1
  · rw [if_neg c] at h1
    obtain ⟨rfl, rfl⟩ := Prod.mk.inj h1
    unfold F_X12_read at h2
    rw [F_misTape, fb_mk, ite_10, if_neg c] at h2
    exact (Prod.mk.inj h2).1
theorem TAP_S {σ : Sg} {t o i j n : Nat} (q : TAP σ) (ht : t < 6) (ho : o < 6) (hi : i + n ≤ 60) (hj : j + n ≤ 60) : TAP (SM (sla σ (52 + 2 * o + 1) (va_cpy (σ.2.1 (52 + 2 * t + 1)) (σ.2.1 (52 + 2 * o + 1)) i j n)) (60 * t + i) (60 * o + j) n) := by
  intro u hu
  obtain ⟨q1, q2, q3, q4⟩ := q u hu
  refine ⟨q1, q2, q3, fun k hk => ?_⟩
  unfold SM
  have e1 : ∀ g h : Nat → Int64, gl (sla (sla (sla σ (52 + 2 * o + 1) (va_cpy (σ.2.1 (52 + 2 * t + 1)) (σ.2.1 (52 + 2 * o + 1)) i j n)) 174 g) 173 h) (52 + 2 * u + 1) k = if 52 + 2 * u + 1 = 52 + 2 * o + 1 then va_cpy (σ.2.1 (52 + 2 * t + 1)) (σ.2.1 (52 + 2 * o + 1)) i j n k else gl σ (52 + 2 * u + 1) k := fun g h => by
    rw [gl_sla, if_neg (show ¬ 52 + 2 * u + 1 = 173 by omega), gl_sla, if_neg (show ¬ 52 + 2 * u + 1 = 174 by omega), gl_sla]
  have e2 : ∀ x, gl (sla σ (52 + 2 * o + 1) (va_cpy (σ.2.1 (52 + 2 * t + 1)) (σ.2.1 (52 + 2 * o + 1)) i j n)) 173 x = gl σ 173 x := fun x => by
    rw [gl_sla, if_neg (show ¬ 173 = 52 + 2 * o + 1 by omega)]
  rw [e1, gl_sla, if_pos (rfl : 173 = 173), e2]
  rw [e2]
  by_cases e : u = o
  · subst e
    rw [if_pos rfl]
    unfold va_cpy
    by_cases d : j ≤ k ∧ k < j + n
    · rw [if_pos d, if_pos (show 60 * u + j ≤ 60 * u + k ∧ 60 * u + k < 60 * u + j + n by omega), show 60 * t + i + (60 * u + k - (60 * u + j)) = 60 * t + (i + (k - j)) by omega]
      exact (q t ht).2.2.2 _ (by omega)
    · rw [if_neg d, if_neg (show ¬ (60 * u + j ≤ 60 * u + k ∧ 60 * u + k < 60 * u + j + n) by omega)]
      exact q4 k hk
  · rw [if_neg (show ¬ 52 + 2 * u + 1 = 52 + 2 * o + 1 by omega), if_neg (show ¬ (60 * o + j ≤ 60 * u + k ∧ 60 * u + k < 60 * o + j + n) by omega)]
    exact q4 k hk
theorem TAP_shift {a1 a2 a3 a4 a5 r1 r2 : Int32} {σ σ1 σ2 : Sg} (hb : ∀ t : Nat, t < 6 → 0 ≤ (gi σ (52 + 2 * t) 2).toInt ∧ (gi σ (52 + 2 * t) 2).toInt ≤ 60) (q : TAP σ) (h1 : F_X11_shift a1 a2 a3 a4 a5 σ = (r1, σ1)) (h2 : F_X12_shift a1 a2 a3 a4 a5 σ1 = (r2, σ2)) : r1 = r2 ∧ TAP σ2 := by
  have tl : ∀ {a : Int32}, 0 ≤ a.toInt → a.toInt ≤ 5 → a.toNatClampNeg < 6 := fun {a} g0 g5 => by
    have := cl_eq g0
    omega
  rw [N_xshift (fun g0 g5 => hb _ (tl g0 g5)) (fun g0 g5 => hb _ (tl g0 g5))] at h1
  have e1 : ∀ k, gi σ1 171 k = gi σ 171 k ∧ gi σ1 172 k = gi σ 172 k := by
    by_cases c : (0 ≤ a1.toInt ∧ a1.toInt ≤ 5) ∧ (0 ≤ a3.toInt ∧ a3.toInt ≤ 5)
    · rw [if_pos c] at h1
      by_cases d : (gi σ (52 + 2 * a1.toNatClampNeg) 1).toInt < 0 ∨ (gi σ (52 + 2 * a3.toNatClampNeg) 1).toInt < 0
      · rw [if_pos d] at h1; obtain ⟨-, rfl⟩ := Prod.mk.inj h1; exact fun _ => ⟨rfl, rfl⟩
      rw [if_neg d] at h1
      by_cases e : (gi σ (52 + 2 * a1.toNatClampNeg) 1).toInt = (gi σ (52 + 2 * a3.toNatClampNeg) 1).toInt
      · rw [if_pos e] at h1
        by_cases g : (0 ≤ a5.toInt ∧ 0 ≤ a2.toInt ∧ a2.toInt ≤ (gi σ (52 + 2 * a1.toNatClampNeg) 2).toInt - a5.toInt) ∧ (0 ≤ a5.toInt ∧ 0 ≤ a4.toInt ∧ a4.toInt ≤ (gi σ (52 + 2 * a3.toNatClampNeg) 2).toInt - a5.toInt)
        · rw [if_pos g] at h1; obtain ⟨-, rfl⟩ := Prod.mk.inj h1; exact fun _ => ⟨rfl, rfl⟩
        · rw [if_neg g] at h1; obtain ⟨-, rfl⟩ := Prod.mk.inj h1; exact fun _ => ⟨rfl, rfl⟩
      · rw [if_neg e] at h1; obtain ⟨-, rfl⟩ := Prod.mk.inj h1; exact fun _ => ⟨rfl, rfl⟩
    · rw [if_neg c] at h1; obtain ⟨-, rfl⟩ := Prod.mk.inj h1; exact fun _ => ⟨rfl, rfl⟩
  have hm : ∀ {a : Int32}, 0 ≤ a.toInt → a.toInt ≤ 5 → 0 ≤ (gi σ1 172 a.toNatClampNeg).toInt ∧ (gi σ1 172 a.toNatClampNeg).toInt ≤ 60 := fun {a} g0 g5 => by
    rw [(e1 _).2, ← (q _ (tl g0 g5)).2.1]
    exact hb _ (tl g0 g5)
  rw [N_mshift (fun g0 g5 => hm g0 g5) (fun g0 g5 => hm g0 g5)] at h2
  by_cases c : (0 ≤ a1.toInt ∧ a1.toInt ≤ 5) ∧ (0 ≤ a3.toInt ∧ a3.toInt ≤ 5)
  · have t1 := tl c.1.1 c.1.2
    have t3 := tl c.2.1 c.2.2
    rw [if_pos c, (e1 a1.toNatClampNeg).1, (e1 a1.toNatClampNeg).2, (e1 a3.toNatClampNeg).1, (e1 a3.toNatClampNeg).2, ← (q _ t1).1, ← (q _ t1).2.1, ← (q _ t3).1, ← (q _ t3).2.1] at h2
    rw [if_pos c] at h1
    obtain ⟨b1, b2⟩ := hb _ t1
    obtain ⟨b3, b4⟩ := hb _ t3
    by_cases d : (gi σ (52 + 2 * a1.toNatClampNeg) 1).toInt < 0 ∨ (gi σ (52 + 2 * a3.toNatClampNeg) 1).toInt < 0
    · rw [if_pos d] at h1 h2
      obtain ⟨rfl, rfl⟩ := Prod.mk.inj h1
      obtain ⟨rfl, rfl⟩ := Prod.mk.inj h2
      exact ⟨rfl, q⟩
    rw [if_neg d] at h1 h2
    by_cases e : (gi σ (52 + 2 * a1.toNatClampNeg) 1).toInt = (gi σ (52 + 2 * a3.toNatClampNeg) 1).toInt
    · rw [if_pos e] at h1 h2
      by_cases g : (0 ≤ a5.toInt ∧ 0 ≤ a2.toInt ∧ a2.toInt ≤ (gi σ (52 + 2 * a1.toNatClampNeg) 2).toInt - a5.toInt) ∧ (0 ≤ a5.toInt ∧ 0 ≤ a4.toInt ∧ a4.toInt ≤ (gi σ (52 + 2 * a3.toNatClampNeg) 2).toInt - a5.toInt)
      · rw [if_pos g] at h1 h2
        obtain ⟨rfl, rfl⟩ := Prod.mk.inj h1
        obtain ⟨rfl, rfl⟩ := Prod.mk.inj h2
        have k2 := cl_eq (x := a2) (by omega)
        have k4 := cl_eq (x := a4) (by omega)
        have k5 := cl_eq (x := a5) (by omega)
        exact ⟨rfl, TAP_S q t1 t3 (by omega) (by omega)⟩
      · rw [if_neg g] at h1 h2
        obtain ⟨rfl, rfl⟩ := Prod.mk.inj h1
        obtain ⟨rfl, rfl⟩ := Prod.mk.inj h2
        exact ⟨rfl, q⟩
    · rw [if_neg e] at h1 h2
      obtain ⟨rfl, rfl⟩ := Prod.mk.inj h1
      obtain ⟨rfl, rfl⟩ := Prod.mk.inj h2
      exact ⟨rfl, q⟩
  · rw [if_neg c] at h1 h2
    obtain ⟨rfl, rfl⟩ := Prod.mk.inj h1
    obtain ⟨rfl, rfl⟩ := Prod.mk.inj h2
    exact ⟨rfl, q⟩
/-! minutes, what is seen: by the arguments and what stands -/
noncomputable def MNA (m n : Int32) : Prop := (9999 ≤ m.toInt → n.toInt = m.toInt) ∧ (m.toInt < 9999 → n.toInt = m.toInt + 1)
noncomputable def WHA (r m n : Int32) : Prop := (9999 ≤ m.toInt → r.toInt = -3 ∧ n.toInt = m.toInt) ∧ (m.toInt < 9999 → r.toInt = n.toInt ∧ n.toInt = m.toInt + 1)
noncomputable def PAA (r a m n : Int32) : Prop := ((a.toInt < 1 ∨ 60 < a.toInt) → r.toInt = -2 ∧ n.toInt = m.toInt) ∧ (1 ≤ a.toInt → a.toInt ≤ 60 → (9999 < m.toInt + a.toInt → r.toInt = -3 ∧ n.toInt = m.toInt) ∧ (m.toInt + a.toInt ≤ 9999 → r.toInt = n.toInt ∧ n.toInt = m.toInt + a.toInt))
noncomputable def SEA (r a1 a2 a3 : Int32) (c n n2 : Int) : Prop := (a1.toInt = -1 → r.toInt = 0 ∧ n2 = 0) ∧ ((a1.toInt < -1 ∨ (a1.toInt ≠ -1 ∧ c ≤ a1.toInt)) → r.toInt = -1 ∧ n2 = n) ∧ (0 ≤ a1.toInt → a1.toInt < c → ((a2.toInt < 0 ∨ 30 < a2.toInt ∨ a3.toInt < 0 ∨ 9999 < a3.toInt) → r.toInt = -2 ∧ n2 = n) ∧ (0 ≤ a2.toInt → a2.toInt ≤ 30 → 0 ≤ a3.toInt → a3.toInt ≤ 9999 → (6 ≤ n → r.toInt = -4 ∧ n2 = n) ∧ (n < 6 → r.toInt = n + 1 ∧ n2 = n + 1)))
/-! image, undo, the model's mower: answers, and counts -/
theorem CPY_fx {S : Nat → Prop} {F : Nat → Nat → Prop} {σ σ1 σ2 : Sg} {c a : Nat} (h : CPY σ σ1 c a) (f : FX S F σ1 σ2) (h1 : ∀ id, c ≤ id ∧ id ≤ c + 7 → ¬ S id) (h2 : ∀ id k, c ≤ id ∧ id ≤ c + 7 → ¬ F id k) : CPY σ σ2 c a := by
  have e : ∀ id k, c ≤ id ∧ id ≤ c + 7 → gi σ2 id k = gi σ1 id k := fun id k q => f.1 id k (h1 id q) (h2 id k q)
  have g : ∀ id k, c ≤ id ∧ id ≤ c + 7 → gr σ2 id k = gr σ1 id k := fun id k q => f.2.2 id k (h1 id q) (h2 id k q)
  obtain ⟨⟨p1, p2, p3, p4, p5⟩, ⟨q1, q2⟩, q3⟩ := h
  refine ⟨⟨?_, ?_, ?_, ?_, ?_⟩, ⟨fun k hk => ?_, fun j j1 j2 k hk => ?_⟩, fun k hk => ?_⟩
  · rw [e _ _ (by omega)]; exact p1
  · rw [e _ _ (by omega)]; exact p2
  · rw [e _ _ (by omega)]; exact p3
  · rw [e _ _ (by omega)]; exact p4
  · rw [g _ _ (by omega)]; exact p5
  · rw [g _ _ (by omega)]; exact q1 k hk
  · rw [e _ _ (by omega)]; exact q2 j j1 j2 k hk
  · rw [e _ _ (by omega)]; exact q3 k hk
theorem CPY_si {σ σ1 : Sg} {c a b k : Nat} {v : Int32} (h : CPY σ σ1 c a) (hb : b < c ∨ c + 7 < b) : CPY σ (si σ1 b k v) c a :=
  CPY_fx h (S := fun id => id = b) (F := fun _ _ => False) (FX_si FX_rf (Or.inl rfl)) (fun id q z => by have z : id = b := z; omega) (fun _ _ _ z => z)
noncomputable def LB_X12_image_55 (rec : Nat → Int32 → Sg → Int32 × Sg) (x1 : Int32) (σ : Sg) : Int32 × Sg := (if (6 : Int32) ≤ x1 then rec 1 (0 : Int32) σ else fl (si σ 156 x1.toNatClampNeg (gi σ 103 x1.toNatClampNeg)) (fun σ4 => fl (si σ4 157 x1.toNatClampNeg (gi σ4 104 x1.toNatClampNeg)) (fun σ7 => fl (si σ7 158 x1.toNatClampNeg (gi σ7 105 x1.toNatClampNeg)) (fun σ10 => fl (si σ10 159 x1.toNatClampNeg (gi σ10 106 x1.toNatClampNeg)) (fun σ13 => fl (si σ13 160 x1.toNatClampNeg (gi σ13 107 x1.toNatClampNeg)) (fun σ16 => fl (si σ16 161 x1.toNatClampNeg (gi σ16 108 x1.toNatClampNeg)) (fun σ19 => fl (si σ19 162 x1.toNatClampNeg (gi σ19 110 x1.toNatClampNeg)) (fun σ22 => fl (si σ22 164 x1.toNatClampNeg (gi σ22 142 x1.toNatClampNeg)) (fun σ25 => fl (si σ25 165 x1.toNatClampNeg (gi σ25 143 x1.toNatClampNeg)) (fun σ28 => fl (si σ28 166 x1.toNatClampNeg (gi σ28 144 x1.toNatClampNeg)) (fun σ31 => fl (x1 + 1) (fun v32 => rec 0 v32 σ31))))))))))))
noncomputable def LB_X12_image_189 (rec : Nat → Int32 → Sg → Int32 × Sg) (x1 : Int32) (σ : Sg) : Int32 × Sg := (if (24 : Int32) ≤ x1 then rec 2 (0 : Int32) σ else fl (si σ 163 x1.toNatClampNeg (gi σ 109 x1.toNatClampNeg)) (fun σ4 => fl (x1 + 1) (fun v5 => rec 1 v5 σ4)))
noncomputable def LB_X12_image_215 (rec : Nat → Int32 → Sg → Int32 × Sg) (x1 : Int32) (σ : Sg) : Int32 × Sg := (if (10 : Int32) ≤ x1 then rec 3 (0 : Int32) σ else fl (si σ 167 x1.toNatClampNeg (gi σ 147 x1.toNatClampNeg)) (fun σ4 => fl (x1 + 1) (fun v5 => rec 2 v5 σ4)))
noncomputable def LB_X12_image_241 (rec : Nat → Int32 → Sg → Int32 × Sg) (x1 : Int32) (σ : Sg) : Int32 × Sg := (if (8 : Int32) ≤ x1 then (gi σ 74 0, σ) else fl (si σ 168 x1.toNatClampNeg (gi σ 148 x1.toNatClampNeg)) (fun σ4 => fl (x1 + 1) (fun v5 => rec 3 v5 σ4)))
noncomputable def LF_X12_image : Nat → Nat → Int32 → Sg → Int32 × Sg
  | 0, _, _, σ => (0, σ)
  | n + 1, 0, x1, σ => LB_X12_image_55 (LF_X12_image n) x1 σ
  | n + 1, 1, x1, σ => LB_X12_image_189 (LF_X12_image n) x1 σ
  | n + 1, 2, x1, σ => LB_X12_image_215 (LF_X12_image n) x1 σ
  | n + 1, 3, x1, σ => LB_X12_image_241 (LF_X12_image n) x1 σ
  | _ + 1, _ + 4, _, σ => (0, σ)
noncomputable def F_X12_image (σ : Sg) : Int32 × Sg := fl (si σ 74 49 (1 : Int32)) (fun σ1 => fl (si σ1 74 50 (gi σ1 74 12)) (fun σ2 => fl (si σ2 74 51 (gi σ2 74 0)) (fun σ3 => fl (si σ3 74 52 (gi σ3 74 1)) (fun σ4 => fl (si σ4 74 53 (gi σ4 74 41)) (fun σ5 => fl (si σ5 74 54 (gi σ5 74 45)) (fun σ6 => fl (si σ6 74 55 (gi σ6 74 46)) (fun σ7 => LF_X12_image 900 0 (0 : Int32) σ7)))))))
set_option maxRecDepth 100000 in
set_option maxHeartbeats 4000000 in
theorem kF_X12_image {l : Launch} {V : Vx} {σ0 : Sg} {Qk : Int32 → Sg → Prop} (m0 : MI σ0) (pre0 : PL σ0) (h9ret : ∀ (r : Int32) (σ' : Sg), MI σ' → Fr [74, 156, 157, 158, 159, 160, 161, 162, 163, 164, 165, 166, 167, 168] [49, 50, 51, 52, 53, 54, 55] σ0 σ' → ((gi σ' 74 51).toInt = (gi σ0 74 0).toInt) → ((gi σ' 74 52).toInt = (gi σ0 74 1).toInt) → ((gi σ' 74 50).toInt = (gi σ0 74 12).toInt) → (PLI σ') → ((gi σ' 74 54).toInt = (gi σ0 74 45).toInt) → ((gi σ' 74 55).toInt = (gi σ0 74 46).toInt) → ((gi σ' 74 49).toInt = 1) → (r.toInt = (gi σ0 74 0).toInt) → ((gi σ' 74 53).toInt = (gi σ0 74 41).toInt) → (F_X12_image σ0 = (r, σ')) → Qk r σ') : K_X12_image l V σ0 Qk := by
  refine e_X12_image (fun M hl hV hN C => ?_)
  subst hl
  subst hV
  obtain ⟨R9, H0⟩ : ∃ R9, F_X12_image σ0 = R9 := ⟨_, rfl⟩
  have T : ∀ n : Nat, (∀ (x1 : Int32) (σ : Sg), MI σ → Fr [74, 156, 157, 158, 159, 160, 161, 162, 163, 164, 165, 166, 167, 168] [49, 50, 51, 52, 53, 54, 55] σ0 σ → (0 ≤ x1.toInt) → (x1.toInt ≤ 6) → ((gi σ 74 51).toInt = (gi σ0 74 0).toInt) → ((gi σ 74 52).toInt = (gi σ0 74 1).toInt) → ((gi σ 74 50).toInt = (gi σ0 74 12).toInt) → (CD σ0 σ 110 110 6) → (CD σ0 σ 162 110 x1.toInt) → ((gi σ 74 54).toInt = (gi σ0 74 45).toInt) → ((gi σ 74 55).toInt = (gi σ0 74 46).toInt) → ((gi σ 74 49).toInt = 1) → ((gi σ 74 0).toInt = (gi σ0 74 0).toInt) → ((gi σ 74 53).toInt = (gi σ0 74 41).toInt) → (LF_X12_image n 0 x1 σ = R9) → (7 - x1.toInt).toNat + 300 < n → PS M 55 [(0, .ref 74), (1, .int x1)] [] σ (0, 0)) ∧ (∀ (x1 : Int32) (σ : Sg), MI σ → Fr [74, 156, 157, 158, 159, 160, 161, 162, 163, 164, 165, 166, 167, 168] [49, 50, 51, 52, 53, 54, 55] σ0 σ → (0 ≤ x1.toInt) → (x1.toInt ≤ 24) → ((gi σ 74 51).toInt = (gi σ0 74 0).toInt) → ((gi σ 74 52).toInt = (gi σ0 74 1).toInt) → ((gi σ 74 50).toInt = (gi σ0 74 12).toInt) → (CD σ0 σ 162 110 6) → ((gi σ 74 54).toInt = (gi σ0 74 45).toInt) → ((gi σ 74 55).toInt = (gi σ0 74 46).toInt) → ((gi σ 74 49).toInt = 1) → ((gi σ 74 0).toInt = (gi σ0 74 0).toInt) → ((gi σ 74 53).toInt = (gi σ0 74 41).toInt) → (LF_X12_image n 1 x1 σ = R9) → (25 - x1.toInt).toNat + 200 < n → PS M 189 [(0, .ref 74), (1, .int x1)] [] σ (0, 0)) ∧ (∀ (x1 : Int32) (σ : Sg), MI σ → Fr [74, 156, 157, 158, 159, 160, 161, 162, 163, 164, 165, 166, 167, 168] [49, 50, 51, 52, 53, 54, 55] σ0 σ → (0 ≤ x1.toInt) → (x1.toInt ≤ 10) → ((gi σ 74 51).toInt = (gi σ0 74 0).toInt) → ((gi σ 74 52).toInt = (gi σ0 74 1).toInt) → ((gi σ 74 50).toInt = (gi σ0 74 12).toInt) → (CD σ0 σ 162 110 6) → ((gi σ 74 54).toInt = (gi σ0 74 45).toInt) → ((gi σ 74 55).toInt = (gi σ0 74 46).toInt) → ((gi σ 74 49).toInt = 1) → ((gi σ 74 0).toInt = (gi σ0 74 0).toInt) → ((gi σ 74 53).toInt = (gi σ0 74 41).toInt) → (LF_X12_image n 2 x1 σ = R9) → (11 - x1.toInt).toNat + 100 < n → PS M 215 [(0, .ref 74), (1, .int x1)] [] σ (0, 0)) ∧ (∀ (x1 : Int32) (σ : Sg), MI σ → Fr [74, 156, 157, 158, 159, 160, 161, 162, 163, 164, 165, 166, 167, 168] [49, 50, 51, 52, 53, 54, 55] σ0 σ → (0 ≤ x1.toInt) → (x1.toInt ≤ 8) → ((gi σ 74 51).toInt = (gi σ0 74 0).toInt) → ((gi σ 74 52).toInt = (gi σ0 74 1).toInt) → ((gi σ 74 50).toInt = (gi σ0 74 12).toInt) → (CD σ0 σ 162 110 6) → ((gi σ 74 54).toInt = (gi σ0 74 45).toInt) → ((gi σ 74 55).toInt = (gi σ0 74 46).toInt) → ((gi σ 74 49).toInt = 1) → ((gi σ 74 0).toInt = (gi σ0 74 0).toInt) → ((gi σ 74 53).toInt = (gi σ0 74 41).toInt) → (LF_X12_image n 3 x1 σ = R9) → (9 - x1.toInt).toNat < n → PS M 241 [(0, .ref 74), (1, .int x1)] [] σ (0, 0)) := by
    intro n
    induction n with
    | zero => exact ⟨fun _ _ _ _ _ _ _ _ _ _ _ _ _ _ _ _ _ h8 => absurd h8 (Nat.not_lt_zero _), fun _ _ _ _ _ _ _ _ _ _ _ _ _ _ _ _ h8 => absurd h8 (Nat.not_lt_zero _), fun _ _ _ _ _ _ _ _ _ _ _ _ _ _ _ _ h8 => absurd h8 (Nat.not_lt_zero _), fun _ _ _ _ _ _ _ _ _ _ _ _ _ _ _ _ h8 => absurd h8 (Nat.not_lt_zero _)⟩
    | succ n ih =>
      obtain ⟨ih55, ih189, ih215, ih241⟩ := ih
      refine ⟨?_, ?_, ?_, ?_⟩
      · intro x1 σ mσ fσ lx1 ux1 i0 i1 i2 i3 i4 i5 i6 i7 i8 i9 H hmu
        replace H : LB_X12_image_55 (LF_X12_image n) x1 σ = R9 := H
        unfold LB_X12_image_55 at H
        refine s_X12_image_55 C hN ?_
        refine ⟨?_, ?_⟩
        · intro q_1
          replace H := f_t q_1 H
          have b_2 : (6 : Int) ≤ x1.toInt := Int32.le_iff_toInt_le.mp q_1
          have z_3 : (0 : Int32).toInt = 0 := rfl
          exact ih189 (0 : Int32) σ mσ fσ (by omega) (by omega) (by first | with_reducible assumption | with_reducible rfl | omega | assumption | rfl) (by first | with_reducible assumption | with_reducible rfl | omega | assumption | rfl) (by first | with_reducible assumption | with_reducible rfl | omega | assumption | rfl) (by first | assumption | exact CD_le (by with_reducible assumption) (by omega)) (by first | with_reducible assumption | with_reducible rfl | omega | assumption | rfl) (by first | with_reducible assumption | with_reducible rfl | omega | assumption | rfl) (by first | with_reducible assumption | with_reducible rfl | omega | assumption | rfl) (by first | with_reducible assumption | with_reducible rfl | omega | assumption | rfl) (by first | with_reducible assumption | with_reducible rfl | omega | assumption | rfl) H (by omega)
        · intro q_1
          replace H := f_f q_1 H
          have b_4 : ¬ (6 : Int) ≤ x1.toInt := fun h9 => q_1 (Int32.le_iff_toInt_le.mpr h9)
          have hv_5 : vp_in x1 6 := vp_in_iff.mpr ⟨by omega, by omega⟩
          refine ⟨hv_5, ?_⟩
          refine ⟨hv_5, ?_⟩
          intro σ4 eσ4
          replace H := f_l eσ4 H
          have mσ4 : MI σ4 := by rw [eσ4]; exact MIs_au (a := 156) mσ rfl rfl
          have fσ4 : Fr [74, 156, 157, 158, 159, 160, 161, 162, 163, 164, 165, 166, 167, 168] [49, 50, 51, 52, 53, 54, 55] σ0 σ4 := by rw [eσ4]; exact Fr_si fσ (by decide +kernel) (fun h9 => absurd h9 (by decide +kernel))
          have k_6 : (gi σ4 74 0).toInt = (gi σ 74 0).toInt := gk_l eσ4 rfl
          have k_7 : (gi σ4 74 1).toInt = (gi σ 74 1).toInt := gk_l eσ4 rfl
          have k_8 : (gi σ4 74 12).toInt = (gi σ 74 12).toInt := gk_l eσ4 rfl
          have k_9 : (gi σ4 74 41).toInt = (gi σ 74 41).toInt := gk_l eσ4 rfl
          have k_10 : (gi σ4 74 45).toInt = (gi σ 74 45).toInt := gk_l eσ4 rfl
          have k_11 : (gi σ4 74 46).toInt = (gi σ 74 46).toInt := gk_l eσ4 rfl
          have k_12 : (gi σ4 74 49).toInt = (gi σ 74 49).toInt := gk_l eσ4 rfl
          have k_13 : (gi σ4 74 50).toInt = (gi σ 74 50).toInt := gk_l eσ4 rfl
          have k_14 : (gi σ4 74 51).toInt = (gi σ 74 51).toInt := gk_l eσ4 rfl
          have k_15 : (gi σ4 74 52).toInt = (gi σ 74 52).toInt := gk_l eσ4 rfl
          have k_16 : (gi σ4 74 53).toInt = (gi σ 74 53).toInt := gk_l eσ4 rfl
          have k_17 : (gi σ4 74 54).toInt = (gi σ 74 54).toInt := gk_l eσ4 rfl
          have k_18 : (gi σ4 74 55).toInt = (gi σ 74 55).toInt := gk_l eσ4 rfl
          try have hC9 : CD σ0 σ4 110 110 (6) := by rw [eσ4]; exact CD_st (by with_reducible assumption) (by decide +kernel)
          try have hC9 : CD σ0 σ4 162 110 (6) := by rw [eσ4]; exact CD_st (by with_reducible assumption) (by decide +kernel)
          try have hC9 : CD σ0 σ4 162 110 (x1.toInt) := by rw [eσ4]; exact CD_st (by with_reducible assumption) (by decide +kernel)
          try have hD9 : CD σ0 σ4 162 110 (x1.toInt + 1) := by rw [eσ4]; first | exact CD_st (by with_reducible assumption) (by decide +kernel) | exact CD_step (c := 110) (by with_reducible assumption) (by with_reducible assumption) (by omega) (by omega)
          refine ⟨hv_5, ?_⟩
          refine ⟨hv_5, ?_⟩
          intro σ7 eσ7
          replace H := f_l eσ7 H
          have mσ7 : MI σ7 := by rw [eσ7]; exact MIs_au (a := 157) mσ4 rfl rfl
          have fσ7 : Fr [74, 156, 157, 158, 159, 160, 161, 162, 163, 164, 165, 166, 167, 168] [49, 50, 51, 52, 53, 54, 55] σ0 σ7 := by rw [eσ7]; exact Fr_si fσ4 (by decide +kernel) (fun h9 => absurd h9 (by decide +kernel))
          have k_19 : (gi σ7 74 0).toInt = (gi σ4 74 0).toInt := gk_l eσ7 rfl
          have k_20 : (gi σ7 74 1).toInt = (gi σ4 74 1).toInt := gk_l eσ7 rfl
          have k_21 : (gi σ7 74 12).toInt = (gi σ4 74 12).toInt := gk_l eσ7 rfl
          have k_22 : (gi σ7 74 41).toInt = (gi σ4 74 41).toInt := gk_l eσ7 rfl
          have k_23 : (gi σ7 74 45).toInt = (gi σ4 74 45).toInt := gk_l eσ7 rfl
          have k_24 : (gi σ7 74 46).toInt = (gi σ4 74 46).toInt := gk_l eσ7 rfl
          have k_25 : (gi σ7 74 49).toInt = (gi σ4 74 49).toInt := gk_l eσ7 rfl
          have k_26 : (gi σ7 74 50).toInt = (gi σ4 74 50).toInt := gk_l eσ7 rfl
          have k_27 : (gi σ7 74 51).toInt = (gi σ4 74 51).toInt := gk_l eσ7 rfl
          have k_28 : (gi σ7 74 52).toInt = (gi σ4 74 52).toInt := gk_l eσ7 rfl
          have k_29 : (gi σ7 74 53).toInt = (gi σ4 74 53).toInt := gk_l eσ7 rfl
          have k_30 : (gi σ7 74 54).toInt = (gi σ4 74 54).toInt := gk_l eσ7 rfl
          have k_31 : (gi σ7 74 55).toInt = (gi σ4 74 55).toInt := gk_l eσ7 rfl
          try have hC9 : CD σ0 σ7 110 110 (6) := by rw [eσ7]; exact CD_st (by with_reducible assumption) (by decide +kernel)
          try have hC9 : CD σ0 σ7 162 110 (6) := by rw [eσ7]; exact CD_st (by with_reducible assumption) (by decide +kernel)
          try have hC9 : CD σ0 σ7 162 110 (x1.toInt) := by rw [eσ7]; exact CD_st (by with_reducible assumption) (by decide +kernel)
          try have hD9 : CD σ0 σ7 162 110 (x1.toInt + 1) := by rw [eσ7]; first | exact CD_st (by with_reducible assumption) (by decide +kernel) | exact CD_step (c := 110) (by with_reducible assumption) (by with_reducible assumption) (by omega) (by omega)
          refine ⟨hv_5, ?_⟩
          refine ⟨hv_5, ?_⟩
          intro σ10 eσ10
          replace H := f_l eσ10 H
          have t_32 := MI_a105 mσ7 hv_5
          have mσ10 : MI σ10 := by rw [eσ10]; exact MIs_a158 mσ7 (by omega) (by omega)
          have fσ10 : Fr [74, 156, 157, 158, 159, 160, 161, 162, 163, 164, 165, 166, 167, 168] [49, 50, 51, 52, 53, 54, 55] σ0 σ10 := by rw [eσ10]; exact Fr_si fσ7 (by decide +kernel) (fun h9 => absurd h9 (by decide +kernel))
          have k_33 : (gi σ10 74 0).toInt = (gi σ7 74 0).toInt := gk_l eσ10 rfl
          have k_34 : (gi σ10 74 1).toInt = (gi σ7 74 1).toInt := gk_l eσ10 rfl
          have k_35 : (gi σ10 74 12).toInt = (gi σ7 74 12).toInt := gk_l eσ10 rfl
          have k_36 : (gi σ10 74 41).toInt = (gi σ7 74 41).toInt := gk_l eσ10 rfl
          have k_37 : (gi σ10 74 45).toInt = (gi σ7 74 45).toInt := gk_l eσ10 rfl
          have k_38 : (gi σ10 74 46).toInt = (gi σ7 74 46).toInt := gk_l eσ10 rfl
          have k_39 : (gi σ10 74 49).toInt = (gi σ7 74 49).toInt := gk_l eσ10 rfl
          have k_40 : (gi σ10 74 50).toInt = (gi σ7 74 50).toInt := gk_l eσ10 rfl
          have k_41 : (gi σ10 74 51).toInt = (gi σ7 74 51).toInt := gk_l eσ10 rfl
          have k_42 : (gi σ10 74 52).toInt = (gi σ7 74 52).toInt := gk_l eσ10 rfl
          have k_43 : (gi σ10 74 53).toInt = (gi σ7 74 53).toInt := gk_l eσ10 rfl
          have k_44 : (gi σ10 74 54).toInt = (gi σ7 74 54).toInt := gk_l eσ10 rfl
          have k_45 : (gi σ10 74 55).toInt = (gi σ7 74 55).toInt := gk_l eσ10 rfl
          try have hC9 : CD σ0 σ10 110 110 (6) := by rw [eσ10]; exact CD_st (by with_reducible assumption) (by decide +kernel)
          try have hC9 : CD σ0 σ10 162 110 (6) := by rw [eσ10]; exact CD_st (by with_reducible assumption) (by decide +kernel)
          try have hC9 : CD σ0 σ10 162 110 (x1.toInt) := by rw [eσ10]; exact CD_st (by with_reducible assumption) (by decide +kernel)
          try have hD9 : CD σ0 σ10 162 110 (x1.toInt + 1) := by rw [eσ10]; first | exact CD_st (by with_reducible assumption) (by decide +kernel) | exact CD_step (c := 110) (by with_reducible assumption) (by with_reducible assumption) (by omega) (by omega)
          refine ⟨hv_5, ?_⟩
          refine ⟨hv_5, ?_⟩
          intro σ13 eσ13
          replace H := f_l eσ13 H
          have mσ13 : MI σ13 := by rw [eσ13]; exact MIs_au (a := 159) mσ10 rfl rfl
          have fσ13 : Fr [74, 156, 157, 158, 159, 160, 161, 162, 163, 164, 165, 166, 167, 168] [49, 50, 51, 52, 53, 54, 55] σ0 σ13 := by rw [eσ13]; exact Fr_si fσ10 (by decide +kernel) (fun h9 => absurd h9 (by decide +kernel))
          have k_46 : (gi σ13 74 0).toInt = (gi σ10 74 0).toInt := gk_l eσ13 rfl
          have k_47 : (gi σ13 74 1).toInt = (gi σ10 74 1).toInt := gk_l eσ13 rfl
          have k_48 : (gi σ13 74 12).toInt = (gi σ10 74 12).toInt := gk_l eσ13 rfl
          have k_49 : (gi σ13 74 41).toInt = (gi σ10 74 41).toInt := gk_l eσ13 rfl
          have k_50 : (gi σ13 74 45).toInt = (gi σ10 74 45).toInt := gk_l eσ13 rfl
          have k_51 : (gi σ13 74 46).toInt = (gi σ10 74 46).toInt := gk_l eσ13 rfl
          have k_52 : (gi σ13 74 49).toInt = (gi σ10 74 49).toInt := gk_l eσ13 rfl
          have k_53 : (gi σ13 74 50).toInt = (gi σ10 74 50).toInt := gk_l eσ13 rfl
          have k_54 : (gi σ13 74 51).toInt = (gi σ10 74 51).toInt := gk_l eσ13 rfl
          have k_55 : (gi σ13 74 52).toInt = (gi σ10 74 52).toInt := gk_l eσ13 rfl
          have k_56 : (gi σ13 74 53).toInt = (gi σ10 74 53).toInt := gk_l eσ13 rfl
          have k_57 : (gi σ13 74 54).toInt = (gi σ10 74 54).toInt := gk_l eσ13 rfl
          have k_58 : (gi σ13 74 55).toInt = (gi σ10 74 55).toInt := gk_l eσ13 rfl
          try have hC9 : CD σ0 σ13 110 110 (6) := by rw [eσ13]; exact CD_st (by with_reducible assumption) (by decide +kernel)
          try have hC9 : CD σ0 σ13 162 110 (6) := by rw [eσ13]; exact CD_st (by with_reducible assumption) (by decide +kernel)
          try have hC9 : CD σ0 σ13 162 110 (x1.toInt) := by rw [eσ13]; exact CD_st (by with_reducible assumption) (by decide +kernel)
          try have hD9 : CD σ0 σ13 162 110 (x1.toInt + 1) := by rw [eσ13]; first | exact CD_st (by with_reducible assumption) (by decide +kernel) | exact CD_step (c := 110) (by with_reducible assumption) (by with_reducible assumption) (by omega) (by omega)
          refine ⟨hv_5, ?_⟩
          refine ⟨hv_5, ?_⟩
          intro σ16 eσ16
          replace H := f_l eσ16 H
          have mσ16 : MI σ16 := by rw [eσ16]; exact MIs_au (a := 160) mσ13 rfl rfl
          have fσ16 : Fr [74, 156, 157, 158, 159, 160, 161, 162, 163, 164, 165, 166, 167, 168] [49, 50, 51, 52, 53, 54, 55] σ0 σ16 := by rw [eσ16]; exact Fr_si fσ13 (by decide +kernel) (fun h9 => absurd h9 (by decide +kernel))
          have k_59 : (gi σ16 74 0).toInt = (gi σ13 74 0).toInt := gk_l eσ16 rfl
          have k_60 : (gi σ16 74 1).toInt = (gi σ13 74 1).toInt := gk_l eσ16 rfl
          have k_61 : (gi σ16 74 12).toInt = (gi σ13 74 12).toInt := gk_l eσ16 rfl
          have k_62 : (gi σ16 74 41).toInt = (gi σ13 74 41).toInt := gk_l eσ16 rfl
          have k_63 : (gi σ16 74 45).toInt = (gi σ13 74 45).toInt := gk_l eσ16 rfl
          have k_64 : (gi σ16 74 46).toInt = (gi σ13 74 46).toInt := gk_l eσ16 rfl
          have k_65 : (gi σ16 74 49).toInt = (gi σ13 74 49).toInt := gk_l eσ16 rfl
          have k_66 : (gi σ16 74 50).toInt = (gi σ13 74 50).toInt := gk_l eσ16 rfl
          have k_67 : (gi σ16 74 51).toInt = (gi σ13 74 51).toInt := gk_l eσ16 rfl
          have k_68 : (gi σ16 74 52).toInt = (gi σ13 74 52).toInt := gk_l eσ16 rfl
          have k_69 : (gi σ16 74 53).toInt = (gi σ13 74 53).toInt := gk_l eσ16 rfl
          have k_70 : (gi σ16 74 54).toInt = (gi σ13 74 54).toInt := gk_l eσ16 rfl
          have k_71 : (gi σ16 74 55).toInt = (gi σ13 74 55).toInt := gk_l eσ16 rfl
          try have hC9 : CD σ0 σ16 110 110 (6) := by rw [eσ16]; exact CD_st (by with_reducible assumption) (by decide +kernel)
          try have hC9 : CD σ0 σ16 162 110 (6) := by rw [eσ16]; exact CD_st (by with_reducible assumption) (by decide +kernel)
          try have hC9 : CD σ0 σ16 162 110 (x1.toInt) := by rw [eσ16]; exact CD_st (by with_reducible assumption) (by decide +kernel)
          try have hD9 : CD σ0 σ16 162 110 (x1.toInt + 1) := by rw [eσ16]; first | exact CD_st (by with_reducible assumption) (by decide +kernel) | exact CD_step (c := 110) (by with_reducible assumption) (by with_reducible assumption) (by omega) (by omega)
          refine ⟨hv_5, ?_⟩
          refine ⟨hv_5, ?_⟩
          intro σ19 eσ19
          replace H := f_l eσ19 H
          have mσ19 : MI σ19 := by rw [eσ19]; exact MIs_au (a := 161) mσ16 rfl rfl
          have fσ19 : Fr [74, 156, 157, 158, 159, 160, 161, 162, 163, 164, 165, 166, 167, 168] [49, 50, 51, 52, 53, 54, 55] σ0 σ19 := by rw [eσ19]; exact Fr_si fσ16 (by decide +kernel) (fun h9 => absurd h9 (by decide +kernel))
          have k_72 : (gi σ19 74 0).toInt = (gi σ16 74 0).toInt := gk_l eσ19 rfl
          have k_73 : (gi σ19 74 1).toInt = (gi σ16 74 1).toInt := gk_l eσ19 rfl
          have k_74 : (gi σ19 74 12).toInt = (gi σ16 74 12).toInt := gk_l eσ19 rfl
          have k_75 : (gi σ19 74 41).toInt = (gi σ16 74 41).toInt := gk_l eσ19 rfl
          have k_76 : (gi σ19 74 45).toInt = (gi σ16 74 45).toInt := gk_l eσ19 rfl
          have k_77 : (gi σ19 74 46).toInt = (gi σ16 74 46).toInt := gk_l eσ19 rfl
          have k_78 : (gi σ19 74 49).toInt = (gi σ16 74 49).toInt := gk_l eσ19 rfl
          have k_79 : (gi σ19 74 50).toInt = (gi σ16 74 50).toInt := gk_l eσ19 rfl
          have k_80 : (gi σ19 74 51).toInt = (gi σ16 74 51).toInt := gk_l eσ19 rfl
          have k_81 : (gi σ19 74 52).toInt = (gi σ16 74 52).toInt := gk_l eσ19 rfl
          have k_82 : (gi σ19 74 53).toInt = (gi σ16 74 53).toInt := gk_l eσ19 rfl
          have k_83 : (gi σ19 74 54).toInt = (gi σ16 74 54).toInt := gk_l eσ19 rfl
          have k_84 : (gi σ19 74 55).toInt = (gi σ16 74 55).toInt := gk_l eσ19 rfl
          try have hC9 : CD σ0 σ19 110 110 (6) := by rw [eσ19]; exact CD_st (by with_reducible assumption) (by decide +kernel)
          try have hC9 : CD σ0 σ19 162 110 (6) := by rw [eσ19]; exact CD_st (by with_reducible assumption) (by decide +kernel)
          try have hC9 : CD σ0 σ19 162 110 (x1.toInt) := by rw [eσ19]; exact CD_st (by with_reducible assumption) (by decide +kernel)
          try have hD9 : CD σ0 σ19 162 110 (x1.toInt + 1) := by rw [eσ19]; first | exact CD_st (by with_reducible assumption) (by decide +kernel) | exact CD_step (c := 110) (by with_reducible assumption) (by with_reducible assumption) (by omega) (by omega)
          refine ⟨hv_5, ?_⟩
          refine ⟨hv_5, ?_⟩
          intro σ22 eσ22
          replace H := f_l eσ22 H
          have t_85 := MI_a110 mσ19 hv_5
          have mσ22 : MI σ22 := by rw [eσ22]; exact MIs_a162 mσ19 (by omega) (by omega)
          have fσ22 : Fr [74, 156, 157, 158, 159, 160, 161, 162, 163, 164, 165, 166, 167, 168] [49, 50, 51, 52, 53, 54, 55] σ0 σ22 := by rw [eσ22]; exact Fr_si fσ19 (by decide +kernel) (fun h9 => absurd h9 (by decide +kernel))
          have k_86 : (gi σ22 74 0).toInt = (gi σ19 74 0).toInt := gk_l eσ22 rfl
          have k_87 : (gi σ22 74 1).toInt = (gi σ19 74 1).toInt := gk_l eσ22 rfl
          have k_88 : (gi σ22 74 12).toInt = (gi σ19 74 12).toInt := gk_l eσ22 rfl
          have k_89 : (gi σ22 74 41).toInt = (gi σ19 74 41).toInt := gk_l eσ22 rfl
          have k_90 : (gi σ22 74 45).toInt = (gi σ19 74 45).toInt := gk_l eσ22 rfl
          have k_91 : (gi σ22 74 46).toInt = (gi σ19 74 46).toInt := gk_l eσ22 rfl
          have k_92 : (gi σ22 74 49).toInt = (gi σ19 74 49).toInt := gk_l eσ22 rfl
          have k_93 : (gi σ22 74 50).toInt = (gi σ19 74 50).toInt := gk_l eσ22 rfl
          have k_94 : (gi σ22 74 51).toInt = (gi σ19 74 51).toInt := gk_l eσ22 rfl
          have k_95 : (gi σ22 74 52).toInt = (gi σ19 74 52).toInt := gk_l eσ22 rfl
          have k_96 : (gi σ22 74 53).toInt = (gi σ19 74 53).toInt := gk_l eσ22 rfl
          have k_97 : (gi σ22 74 54).toInt = (gi σ19 74 54).toInt := gk_l eσ22 rfl
          have k_98 : (gi σ22 74 55).toInt = (gi σ19 74 55).toInt := gk_l eσ22 rfl
          try have hC9 : CD σ0 σ22 110 110 (6) := by rw [eσ22]; exact CD_st (by with_reducible assumption) (by decide +kernel)
          try have hC9 : CD σ0 σ22 162 110 (6) := by rw [eσ22]; exact CD_st (by with_reducible assumption) (by decide +kernel)
          try have hC9 : CD σ0 σ22 162 110 (x1.toInt) := by rw [eσ22]; exact CD_st (by with_reducible assumption) (by decide +kernel)
          try have hD9 : CD σ0 σ22 162 110 (x1.toInt + 1) := by rw [eσ22]; first | exact CD_st (by with_reducible assumption) (by decide +kernel) | exact CD_step (c := 110) (by with_reducible assumption) (by with_reducible assumption) (by omega) (by omega)
          refine ⟨hv_5, ?_⟩
          refine ⟨hv_5, ?_⟩
          intro σ25 eσ25
          replace H := f_l eσ25 H
          have t_99 := MI_a142 mσ22 hv_5
          have mσ25 : MI σ25 := by rw [eσ25]; exact MIs_a164 mσ22 (by omega) (by omega)
          have fσ25 : Fr [74, 156, 157, 158, 159, 160, 161, 162, 163, 164, 165, 166, 167, 168] [49, 50, 51, 52, 53, 54, 55] σ0 σ25 := by rw [eσ25]; exact Fr_si fσ22 (by decide +kernel) (fun h9 => absurd h9 (by decide +kernel))
          have k_100 : (gi σ25 74 0).toInt = (gi σ22 74 0).toInt := gk_l eσ25 rfl
          have k_101 : (gi σ25 74 1).toInt = (gi σ22 74 1).toInt := gk_l eσ25 rfl
          have k_102 : (gi σ25 74 12).toInt = (gi σ22 74 12).toInt := gk_l eσ25 rfl
          have k_103 : (gi σ25 74 41).toInt = (gi σ22 74 41).toInt := gk_l eσ25 rfl
          have k_104 : (gi σ25 74 45).toInt = (gi σ22 74 45).toInt := gk_l eσ25 rfl
          have k_105 : (gi σ25 74 46).toInt = (gi σ22 74 46).toInt := gk_l eσ25 rfl
          have k_106 : (gi σ25 74 49).toInt = (gi σ22 74 49).toInt := gk_l eσ25 rfl
          have k_107 : (gi σ25 74 50).toInt = (gi σ22 74 50).toInt := gk_l eσ25 rfl
          have k_108 : (gi σ25 74 51).toInt = (gi σ22 74 51).toInt := gk_l eσ25 rfl
          have k_109 : (gi σ25 74 52).toInt = (gi σ22 74 52).toInt := gk_l eσ25 rfl
          have k_110 : (gi σ25 74 53).toInt = (gi σ22 74 53).toInt := gk_l eσ25 rfl
          have k_111 : (gi σ25 74 54).toInt = (gi σ22 74 54).toInt := gk_l eσ25 rfl
          have k_112 : (gi σ25 74 55).toInt = (gi σ22 74 55).toInt := gk_l eσ25 rfl
          try have hC9 : CD σ0 σ25 110 110 (6) := by rw [eσ25]; exact CD_st (by with_reducible assumption) (by decide +kernel)
          try have hC9 : CD σ0 σ25 162 110 (6) := by rw [eσ25]; exact CD_st (by with_reducible assumption) (by decide +kernel)
          try have hC9 : CD σ0 σ25 162 110 (x1.toInt) := by rw [eσ25]; exact CD_st (by with_reducible assumption) (by decide +kernel)
          try have hD9 : CD σ0 σ25 162 110 (x1.toInt + 1) := by rw [eσ25]; first | exact CD_st (by with_reducible assumption) (by decide +kernel) | exact CD_step (c := 110) (by with_reducible assumption) (by with_reducible assumption) (by omega) (by omega)
          refine ⟨hv_5, ?_⟩
          refine ⟨hv_5, ?_⟩
          intro σ28 eσ28
          replace H := f_l eσ28 H
          have t_113 := MI_a143 mσ25 hv_5
          have mσ28 : MI σ28 := by rw [eσ28]; exact MIs_a165 mσ25 (by omega) (by omega)
          have fσ28 : Fr [74, 156, 157, 158, 159, 160, 161, 162, 163, 164, 165, 166, 167, 168] [49, 50, 51, 52, 53, 54, 55] σ0 σ28 := by rw [eσ28]; exact Fr_si fσ25 (by decide +kernel) (fun h9 => absurd h9 (by decide +kernel))
          have k_114 : (gi σ28 74 0).toInt = (gi σ25 74 0).toInt := gk_l eσ28 rfl
          have k_115 : (gi σ28 74 1).toInt = (gi σ25 74 1).toInt := gk_l eσ28 rfl
          have k_116 : (gi σ28 74 12).toInt = (gi σ25 74 12).toInt := gk_l eσ28 rfl
          have k_117 : (gi σ28 74 41).toInt = (gi σ25 74 41).toInt := gk_l eσ28 rfl
          have k_118 : (gi σ28 74 45).toInt = (gi σ25 74 45).toInt := gk_l eσ28 rfl
          have k_119 : (gi σ28 74 46).toInt = (gi σ25 74 46).toInt := gk_l eσ28 rfl
          have k_120 : (gi σ28 74 49).toInt = (gi σ25 74 49).toInt := gk_l eσ28 rfl
          have k_121 : (gi σ28 74 50).toInt = (gi σ25 74 50).toInt := gk_l eσ28 rfl
          have k_122 : (gi σ28 74 51).toInt = (gi σ25 74 51).toInt := gk_l eσ28 rfl
          have k_123 : (gi σ28 74 52).toInt = (gi σ25 74 52).toInt := gk_l eσ28 rfl
          have k_124 : (gi σ28 74 53).toInt = (gi σ25 74 53).toInt := gk_l eσ28 rfl
          have k_125 : (gi σ28 74 54).toInt = (gi σ25 74 54).toInt := gk_l eσ28 rfl
          have k_126 : (gi σ28 74 55).toInt = (gi σ25 74 55).toInt := gk_l eσ28 rfl
          try have hC9 : CD σ0 σ28 110 110 (6) := by rw [eσ28]; exact CD_st (by with_reducible assumption) (by decide +kernel)
          try have hC9 : CD σ0 σ28 162 110 (6) := by rw [eσ28]; exact CD_st (by with_reducible assumption) (by decide +kernel)
          try have hC9 : CD σ0 σ28 162 110 (x1.toInt) := by rw [eσ28]; exact CD_st (by with_reducible assumption) (by decide +kernel)
          try have hD9 : CD σ0 σ28 162 110 (x1.toInt + 1) := by rw [eσ28]; first | exact CD_st (by with_reducible assumption) (by decide +kernel) | exact CD_step (c := 110) (by with_reducible assumption) (by with_reducible assumption) (by omega) (by omega)
          refine ⟨hv_5, ?_⟩
          refine ⟨hv_5, ?_⟩
          intro σ31 eσ31
          replace H := f_l eσ31 H
          have mσ31 : MI σ31 := by rw [eσ31]; exact MIs_au (a := 166) mσ28 rfl rfl
          have fσ31 : Fr [74, 156, 157, 158, 159, 160, 161, 162, 163, 164, 165, 166, 167, 168] [49, 50, 51, 52, 53, 54, 55] σ0 σ31 := by rw [eσ31]; exact Fr_si fσ28 (by decide +kernel) (fun h9 => absurd h9 (by decide +kernel))
          have k_127 : (gi σ31 74 0).toInt = (gi σ28 74 0).toInt := gk_l eσ31 rfl
          have k_128 : (gi σ31 74 1).toInt = (gi σ28 74 1).toInt := gk_l eσ31 rfl
          have k_129 : (gi σ31 74 12).toInt = (gi σ28 74 12).toInt := gk_l eσ31 rfl
          have k_130 : (gi σ31 74 41).toInt = (gi σ28 74 41).toInt := gk_l eσ31 rfl
          have k_131 : (gi σ31 74 45).toInt = (gi σ28 74 45).toInt := gk_l eσ31 rfl
          have k_132 : (gi σ31 74 46).toInt = (gi σ28 74 46).toInt := gk_l eσ31 rfl
          have k_133 : (gi σ31 74 49).toInt = (gi σ28 74 49).toInt := gk_l eσ31 rfl
          have k_134 : (gi σ31 74 50).toInt = (gi σ28 74 50).toInt := gk_l eσ31 rfl
          have k_135 : (gi σ31 74 51).toInt = (gi σ28 74 51).toInt := gk_l eσ31 rfl
          have k_136 : (gi σ31 74 52).toInt = (gi σ28 74 52).toInt := gk_l eσ31 rfl
          have k_137 : (gi σ31 74 53).toInt = (gi σ28 74 53).toInt := gk_l eσ31 rfl
          have k_138 : (gi σ31 74 54).toInt = (gi σ28 74 54).toInt := gk_l eσ31 rfl
          have k_139 : (gi σ31 74 55).toInt = (gi σ28 74 55).toInt := gk_l eσ31 rfl
          try have hC9 : CD σ0 σ31 110 110 (6) := by rw [eσ31]; exact CD_st (by with_reducible assumption) (by decide +kernel)
          try have hC9 : CD σ0 σ31 162 110 (6) := by rw [eσ31]; exact CD_st (by with_reducible assumption) (by decide +kernel)
          try have hC9 : CD σ0 σ31 162 110 (x1.toInt) := by rw [eσ31]; exact CD_st (by with_reducible assumption) (by decide +kernel)
          try have hD9 : CD σ0 σ31 162 110 (x1.toInt + 1) := by rw [eσ31]; first | exact CD_st (by with_reducible assumption) (by decide +kernel) | exact CD_step (c := 110) (by with_reducible assumption) (by with_reducible assumption) (by omega) (by omega)
          intro v32 ev32
          replace H := f_l ev32 H
          have t_140 : (x1 + (1 : Int32)).toInt = x1.toInt + 1 := i_add (x := x1) (y := (1 : Int32)) (by show (_ : Int) ≤ x1.toInt + 1; omega) (by show x1.toInt + 1 ≤ (_ : Int); omega)
          have t_141 : v32.toInt = (x1 + (1 : Int32)).toInt := congrArg Int32.toInt ev32
          exact ih55 v32 σ31 mσ31 fσ31 (by omega) (by omega) (by first | with_reducible assumption | with_reducible rfl | omega | assumption | rfl) (by first | with_reducible assumption | with_reducible rfl | omega | assumption | rfl) (by first | with_reducible assumption | with_reducible rfl | omega | assumption | rfl) (by with_reducible assumption) (by first | exact CD_0 (Int.le_refl 0) | (rw [show v32.toInt = x1.toInt + 1 from by omega]; assumption)) (by first | with_reducible assumption | with_reducible rfl | omega | assumption | rfl) (by first | with_reducible assumption | with_reducible rfl | omega | assumption | rfl) (by first | with_reducible assumption | with_reducible rfl | omega | assumption | rfl) (by first | with_reducible assumption | with_reducible rfl | omega | assumption | rfl) (by first | with_reducible assumption | with_reducible rfl | omega | assumption | rfl) H (by omega)
      · intro x1 σ mσ fσ lx1 ux1 i0 i1 i2 i3 i4 i5 i6 i7 i8 H hmu
        replace H : LB_X12_image_189 (LF_X12_image n) x1 σ = R9 := H
        unfold LB_X12_image_189 at H
        refine s_X12_image_189 C hN ?_
        refine ⟨?_, ?_⟩
        · intro q_142
          replace H := f_t q_142 H
          have b_143 : (24 : Int) ≤ x1.toInt := Int32.le_iff_toInt_le.mp q_142
          have z_144 : (0 : Int32).toInt = 0 := rfl
          exact ih215 (0 : Int32) σ mσ fσ (by omega) (by omega) (by first | with_reducible assumption | with_reducible rfl | omega | assumption | rfl) (by first | with_reducible assumption | with_reducible rfl | omega | assumption | rfl) (by first | with_reducible assumption | with_reducible rfl | omega | assumption | rfl) (by first | assumption | exact CD_le (by with_reducible assumption) (by omega)) (by first | with_reducible assumption | with_reducible rfl | omega | assumption | rfl) (by first | with_reducible assumption | with_reducible rfl | omega | assumption | rfl) (by first | with_reducible assumption | with_reducible rfl | omega | assumption | rfl) (by first | with_reducible assumption | with_reducible rfl | omega | assumption | rfl) (by first | with_reducible assumption | with_reducible rfl | omega | assumption | rfl) H (by omega)
        · intro q_142
          replace H := f_f q_142 H
          have b_145 : ¬ (24 : Int) ≤ x1.toInt := fun h9 => q_142 (Int32.le_iff_toInt_le.mpr h9)
          have hv_146 : vp_in x1 24 := vp_in_iff.mpr ⟨by omega, by omega⟩
          refine ⟨hv_146, ?_⟩
          refine ⟨hv_146, ?_⟩
          intro σ4 eσ4
          replace H := f_l eσ4 H
          have mσ4 : MI σ4 := by rw [eσ4]; exact MIs_au (a := 163) mσ rfl rfl
          have fσ4 : Fr [74, 156, 157, 158, 159, 160, 161, 162, 163, 164, 165, 166, 167, 168] [49, 50, 51, 52, 53, 54, 55] σ0 σ4 := by rw [eσ4]; exact Fr_si fσ (by decide +kernel) (fun h9 => absurd h9 (by decide +kernel))
          have k_147 : (gi σ4 74 0).toInt = (gi σ 74 0).toInt := gk_l eσ4 rfl
          have k_148 : (gi σ4 74 1).toInt = (gi σ 74 1).toInt := gk_l eσ4 rfl
          have k_149 : (gi σ4 74 12).toInt = (gi σ 74 12).toInt := gk_l eσ4 rfl
          have k_150 : (gi σ4 74 41).toInt = (gi σ 74 41).toInt := gk_l eσ4 rfl
          have k_151 : (gi σ4 74 45).toInt = (gi σ 74 45).toInt := gk_l eσ4 rfl
          have k_152 : (gi σ4 74 46).toInt = (gi σ 74 46).toInt := gk_l eσ4 rfl
          have k_153 : (gi σ4 74 49).toInt = (gi σ 74 49).toInt := gk_l eσ4 rfl
          have k_154 : (gi σ4 74 50).toInt = (gi σ 74 50).toInt := gk_l eσ4 rfl
          have k_155 : (gi σ4 74 51).toInt = (gi σ 74 51).toInt := gk_l eσ4 rfl
          have k_156 : (gi σ4 74 52).toInt = (gi σ 74 52).toInt := gk_l eσ4 rfl
          have k_157 : (gi σ4 74 53).toInt = (gi σ 74 53).toInt := gk_l eσ4 rfl
          have k_158 : (gi σ4 74 54).toInt = (gi σ 74 54).toInt := gk_l eσ4 rfl
          have k_159 : (gi σ4 74 55).toInt = (gi σ 74 55).toInt := gk_l eσ4 rfl
          try have hC9 : CD σ0 σ4 110 110 (6) := by rw [eσ4]; exact CD_st (by with_reducible assumption) (by decide +kernel)
          try have hC9 : CD σ0 σ4 162 110 (6) := by rw [eσ4]; exact CD_st (by with_reducible assumption) (by decide +kernel)
          try have hC9 : CD σ0 σ4 162 110 (x1.toInt) := by rw [eσ4]; exact CD_st (by with_reducible assumption) (by decide +kernel)
          try have hD9 : CD σ0 σ4 162 110 (x1.toInt + 1) := by rw [eσ4]; first | exact CD_st (by with_reducible assumption) (by decide +kernel) | exact CD_step (c := 110) (by with_reducible assumption) (by with_reducible assumption) (by omega) (by omega)
          intro v5 ev5
          replace H := f_l ev5 H
          have t_160 : (x1 + (1 : Int32)).toInt = x1.toInt + 1 := i_add (x := x1) (y := (1 : Int32)) (by show (_ : Int) ≤ x1.toInt + 1; omega) (by show x1.toInt + 1 ≤ (_ : Int); omega)
          have t_161 : v5.toInt = (x1 + (1 : Int32)).toInt := congrArg Int32.toInt ev5
          exact ih189 v5 σ4 mσ4 fσ4 (by omega) (by omega) (by first | with_reducible assumption | with_reducible rfl | omega | assumption | rfl) (by first | with_reducible assumption | with_reducible rfl | omega | assumption | rfl) (by first | with_reducible assumption | with_reducible rfl | omega | assumption | rfl) (by first | assumption | exact CD_le (by with_reducible assumption) (by omega)) (by first | with_reducible assumption | with_reducible rfl | omega | assumption | rfl) (by first | with_reducible assumption | with_reducible rfl | omega | assumption | rfl) (by first | with_reducible assumption | with_reducible rfl | omega | assumption | rfl) (by first | with_reducible assumption | with_reducible rfl | omega | assumption | rfl) (by first | with_reducible assumption | with_reducible rfl | omega | assumption | rfl) H (by omega)
      · intro x1 σ mσ fσ lx1 ux1 i0 i1 i2 i3 i4 i5 i6 i7 i8 H hmu
        replace H : LB_X12_image_215 (LF_X12_image n) x1 σ = R9 := H
        unfold LB_X12_image_215 at H
        refine s_X12_image_215 C hN ?_
        refine ⟨?_, ?_⟩
        · intro q_162
          replace H := f_t q_162 H
          have b_163 : (10 : Int) ≤ x1.toInt := Int32.le_iff_toInt_le.mp q_162
          have z_164 : (0 : Int32).toInt = 0 := rfl
          exact ih241 (0 : Int32) σ mσ fσ (by omega) (by omega) (by first | with_reducible assumption | with_reducible rfl | omega | assumption | rfl) (by first | with_reducible assumption | with_reducible rfl | omega | assumption | rfl) (by first | with_reducible assumption | with_reducible rfl | omega | assumption | rfl) (by first | assumption | exact CD_le (by with_reducible assumption) (by omega)) (by first | with_reducible assumption | with_reducible rfl | omega | assumption | rfl) (by first | with_reducible assumption | with_reducible rfl | omega | assumption | rfl) (by first | with_reducible assumption | with_reducible rfl | omega | assumption | rfl) (by first | with_reducible assumption | with_reducible rfl | omega | assumption | rfl) (by first | with_reducible assumption | with_reducible rfl | omega | assumption | rfl) H (by omega)
        · intro q_162
          replace H := f_f q_162 H
          have b_165 : ¬ (10 : Int) ≤ x1.toInt := fun h9 => q_162 (Int32.le_iff_toInt_le.mpr h9)
          have hv_166 : vp_in x1 10 := vp_in_iff.mpr ⟨by omega, by omega⟩
          refine ⟨hv_166, ?_⟩
          refine ⟨hv_166, ?_⟩
          intro σ4 eσ4
          replace H := f_l eσ4 H
          have mσ4 : MI σ4 := by rw [eσ4]; exact MIs_au (a := 167) mσ rfl rfl
          have fσ4 : Fr [74, 156, 157, 158, 159, 160, 161, 162, 163, 164, 165, 166, 167, 168] [49, 50, 51, 52, 53, 54, 55] σ0 σ4 := by rw [eσ4]; exact Fr_si fσ (by decide +kernel) (fun h9 => absurd h9 (by decide +kernel))
          have k_167 : (gi σ4 74 0).toInt = (gi σ 74 0).toInt := gk_l eσ4 rfl
          have k_168 : (gi σ4 74 1).toInt = (gi σ 74 1).toInt := gk_l eσ4 rfl
          have k_169 : (gi σ4 74 12).toInt = (gi σ 74 12).toInt := gk_l eσ4 rfl
          have k_170 : (gi σ4 74 41).toInt = (gi σ 74 41).toInt := gk_l eσ4 rfl
          have k_171 : (gi σ4 74 45).toInt = (gi σ 74 45).toInt := gk_l eσ4 rfl
          have k_172 : (gi σ4 74 46).toInt = (gi σ 74 46).toInt := gk_l eσ4 rfl
          have k_173 : (gi σ4 74 49).toInt = (gi σ 74 49).toInt := gk_l eσ4 rfl
          have k_174 : (gi σ4 74 50).toInt = (gi σ 74 50).toInt := gk_l eσ4 rfl
          have k_175 : (gi σ4 74 51).toInt = (gi σ 74 51).toInt := gk_l eσ4 rfl
          have k_176 : (gi σ4 74 52).toInt = (gi σ 74 52).toInt := gk_l eσ4 rfl
          have k_177 : (gi σ4 74 53).toInt = (gi σ 74 53).toInt := gk_l eσ4 rfl
          have k_178 : (gi σ4 74 54).toInt = (gi σ 74 54).toInt := gk_l eσ4 rfl
          have k_179 : (gi σ4 74 55).toInt = (gi σ 74 55).toInt := gk_l eσ4 rfl
          try have hC9 : CD σ0 σ4 110 110 (6) := by rw [eσ4]; exact CD_st (by with_reducible assumption) (by decide +kernel)
          try have hC9 : CD σ0 σ4 162 110 (6) := by rw [eσ4]; exact CD_st (by with_reducible assumption) (by decide +kernel)
          try have hC9 : CD σ0 σ4 162 110 (x1.toInt) := by rw [eσ4]; exact CD_st (by with_reducible assumption) (by decide +kernel)
          try have hD9 : CD σ0 σ4 162 110 (x1.toInt + 1) := by rw [eσ4]; first | exact CD_st (by with_reducible assumption) (by decide +kernel) | exact CD_step (c := 110) (by with_reducible assumption) (by with_reducible assumption) (by omega) (by omega)
          intro v5 ev5
          replace H := f_l ev5 H
          have t_180 : (x1 + (1 : Int32)).toInt = x1.toInt + 1 := i_add (x := x1) (y := (1 : Int32)) (by show (_ : Int) ≤ x1.toInt + 1; omega) (by show x1.toInt + 1 ≤ (_ : Int); omega)
          have t_181 : v5.toInt = (x1 + (1 : Int32)).toInt := congrArg Int32.toInt ev5
          exact ih215 v5 σ4 mσ4 fσ4 (by omega) (by omega) (by first | with_reducible assumption | with_reducible rfl | omega | assumption | rfl) (by first | with_reducible assumption | with_reducible rfl | omega | assumption | rfl) (by first | with_reducible assumption | with_reducible rfl | omega | assumption | rfl) (by first | assumption | exact CD_le (by with_reducible assumption) (by omega)) (by first | with_reducible assumption | with_reducible rfl | omega | assumption | rfl) (by first | with_reducible assumption | with_reducible rfl | omega | assumption | rfl) (by first | with_reducible assumption | with_reducible rfl | omega | assumption | rfl) (by first | with_reducible assumption | with_reducible rfl | omega | assumption | rfl) (by first | with_reducible assumption | with_reducible rfl | omega | assumption | rfl) H (by omega)
      · intro x1 σ mσ fσ lx1 ux1 i0 i1 i2 i3 i4 i5 i6 i7 i8 H hmu
        replace H : LB_X12_image_241 (LF_X12_image n) x1 σ = R9 := H
        unfold LB_X12_image_241 at H
        refine s_X12_image_241 C hN ?_
        refine ⟨?_, ?_⟩
        · intro q_182
          replace H := f_t q_182 H
          have b_183 : (8 : Int) ≤ x1.toInt := Int32.le_iff_toInt_le.mp q_182
          have t_184 := MI_f0 mσ
          exact h9ret (gi σ 74 0) σ mσ fσ (by first | with_reducible assumption | with_reducible rfl | omega | assumption | rfl) (by first | with_reducible assumption | with_reducible rfl | omega | assumption | rfl) (by first | with_reducible assumption | with_reducible rfl | omega | assumption | rfl) (PLI_mk m0 pre0 (by with_reducible assumption) (by omega)) (by first | with_reducible assumption | with_reducible rfl | omega | assumption | rfl) (by first | with_reducible assumption | with_reducible rfl | omega | assumption | rfl) (by first | with_reducible assumption | with_reducible rfl | omega | assumption | rfl) (by first | with_reducible assumption | with_reducible rfl | omega | assumption | rfl) (by first | with_reducible assumption | with_reducible rfl | omega | assumption | rfl) (H0.trans H.symm)
        · intro q_182
          replace H := f_f q_182 H
          have b_185 : ¬ (8 : Int) ≤ x1.toInt := fun h9 => q_182 (Int32.le_iff_toInt_le.mpr h9)
          have hv_186 : vp_in x1 8 := vp_in_iff.mpr ⟨by omega, by omega⟩
          refine ⟨hv_186, ?_⟩
          refine ⟨hv_186, ?_⟩
          intro σ4 eσ4
          replace H := f_l eσ4 H
          have mσ4 : MI σ4 := by rw [eσ4]; exact MIs_au (a := 168) mσ rfl rfl
          have fσ4 : Fr [74, 156, 157, 158, 159, 160, 161, 162, 163, 164, 165, 166, 167, 168] [49, 50, 51, 52, 53, 54, 55] σ0 σ4 := by rw [eσ4]; exact Fr_si fσ (by decide +kernel) (fun h9 => absurd h9 (by decide +kernel))
          have k_187 : (gi σ4 74 0).toInt = (gi σ 74 0).toInt := gk_l eσ4 rfl
          have k_188 : (gi σ4 74 1).toInt = (gi σ 74 1).toInt := gk_l eσ4 rfl
          have k_189 : (gi σ4 74 12).toInt = (gi σ 74 12).toInt := gk_l eσ4 rfl
          have k_190 : (gi σ4 74 41).toInt = (gi σ 74 41).toInt := gk_l eσ4 rfl
          have k_191 : (gi σ4 74 45).toInt = (gi σ 74 45).toInt := gk_l eσ4 rfl
          have k_192 : (gi σ4 74 46).toInt = (gi σ 74 46).toInt := gk_l eσ4 rfl
          have k_193 : (gi σ4 74 49).toInt = (gi σ 74 49).toInt := gk_l eσ4 rfl
          have k_194 : (gi σ4 74 50).toInt = (gi σ 74 50).toInt := gk_l eσ4 rfl
          have k_195 : (gi σ4 74 51).toInt = (gi σ 74 51).toInt := gk_l eσ4 rfl
          have k_196 : (gi σ4 74 52).toInt = (gi σ 74 52).toInt := gk_l eσ4 rfl
          have k_197 : (gi σ4 74 53).toInt = (gi σ 74 53).toInt := gk_l eσ4 rfl
          have k_198 : (gi σ4 74 54).toInt = (gi σ 74 54).toInt := gk_l eσ4 rfl
          have k_199 : (gi σ4 74 55).toInt = (gi σ 74 55).toInt := gk_l eσ4 rfl
          try have hC9 : CD σ0 σ4 110 110 (6) := by rw [eσ4]; exact CD_st (by with_reducible assumption) (by decide +kernel)
          try have hC9 : CD σ0 σ4 162 110 (6) := by rw [eσ4]; exact CD_st (by with_reducible assumption) (by decide +kernel)
          try have hC9 : CD σ0 σ4 162 110 (x1.toInt) := by rw [eσ4]; exact CD_st (by with_reducible assumption) (by decide +kernel)
          try have hD9 : CD σ0 σ4 162 110 (x1.toInt + 1) := by rw [eσ4]; first | exact CD_st (by with_reducible assumption) (by decide +kernel) | exact CD_step (c := 110) (by with_reducible assumption) (by with_reducible assumption) (by omega) (by omega)
          intro v5 ev5
          replace H := f_l ev5 H
          have t_200 : (x1 + (1 : Int32)).toInt = x1.toInt + 1 := i_add (x := x1) (y := (1 : Int32)) (by show (_ : Int) ≤ x1.toInt + 1; omega) (by show x1.toInt + 1 ≤ (_ : Int); omega)
          have t_201 : v5.toInt = (x1 + (1 : Int32)).toInt := congrArg Int32.toInt ev5
          exact ih241 v5 σ4 mσ4 fσ4 (by omega) (by omega) (by first | with_reducible assumption | with_reducible rfl | omega | assumption | rfl) (by first | with_reducible assumption | with_reducible rfl | omega | assumption | rfl) (by first | with_reducible assumption | with_reducible rfl | omega | assumption | rfl) (by first | assumption | exact CD_le (by with_reducible assumption) (by omega)) (by first | with_reducible assumption | with_reducible rfl | omega | assumption | rfl) (by first | with_reducible assumption | with_reducible rfl | omega | assumption | rfl) (by first | with_reducible assumption | with_reducible rfl | omega | assumption | rfl) (by first | with_reducible assumption | with_reducible rfl | omega | assumption | rfl) (by first | with_reducible assumption | with_reducible rfl | omega | assumption | rfl) H (by omega)
  obtain ⟨U55, U189, U215, U241⟩ := T 900
  have f0 : Fr [74, 156, 157, 158, 159, 160, 161, 162, 163, 164, 165, 166, 167, 168] [49, 50, 51, 52, 53, 54, 55] σ0 σ0 := Fr_rf
  have hA9 : CD σ0 σ0 110 110 6 := CD_rf
  have H := H0
  unfold F_X12_image at H
  refine s_X12_image_0 C hN ?_
  intro σ1 eσ1
  replace H := f_l eσ1 H
  have mσ1 : MI σ1 := by rw [eσ1]; exact MIs_fu m0 (by decide +kernel)
  have fσ1 : Fr [74, 156, 157, 158, 159, 160, 161, 162, 163, 164, 165, 166, 167, 168] [49, 50, 51, 52, 53, 54, 55] σ0 σ1 := by rw [eσ1]; exact Fr_si f0 (by decide +kernel) (fun _ => by decide +kernel)
  have k_202 : (gi σ1 74 0).toInt = (gi σ0 74 0).toInt := gk_r eσ1 rfl
  have k_203 : (gi σ1 74 1).toInt = (gi σ0 74 1).toInt := gk_r eσ1 rfl
  have k_204 : (gi σ1 74 12).toInt = (gi σ0 74 12).toInt := gk_r eσ1 rfl
  have k_205 : (gi σ1 74 41).toInt = (gi σ0 74 41).toInt := gk_r eσ1 rfl
  have k_206 : (gi σ1 74 45).toInt = (gi σ0 74 45).toInt := gk_r eσ1 rfl
  have k_207 : (gi σ1 74 46).toInt = (gi σ0 74 46).toInt := gk_r eσ1 rfl
  have k_208 : (gi σ1 74 49).toInt = 1 := by rw [eσ1]; exact congrArg Int32.toInt gi_si_eq
  have k_209 : (gi σ1 74 50).toInt = (gi σ0 74 50).toInt := gk_r eσ1 rfl
  have k_210 : (gi σ1 74 51).toInt = (gi σ0 74 51).toInt := gk_r eσ1 rfl
  have k_211 : (gi σ1 74 52).toInt = (gi σ0 74 52).toInt := gk_r eσ1 rfl
  have k_212 : (gi σ1 74 53).toInt = (gi σ0 74 53).toInt := gk_r eσ1 rfl
  have k_213 : (gi σ1 74 54).toInt = (gi σ0 74 54).toInt := gk_r eσ1 rfl
  have k_214 : (gi σ1 74 55).toInt = (gi σ0 74 55).toInt := gk_r eσ1 rfl
  try have hC9 : CD σ0 σ1 110 110 (6) := by rw [eσ1]; exact CD_st (by with_reducible assumption) (by decide +kernel)
  intro σ2 eσ2
  replace H := f_l eσ2 H
  have t_215 := MI_f12 mσ1
  have mσ2 : MI σ2 := by rw [eσ2]; exact MIs_f50 mσ1 (by omega) (by omega) (FV_copy mσ1.2.2 (Or.inr rfl) (Or.inl rfl))
  have fσ2 : Fr [74, 156, 157, 158, 159, 160, 161, 162, 163, 164, 165, 166, 167, 168] [49, 50, 51, 52, 53, 54, 55] σ0 σ2 := by rw [eσ2]; exact Fr_si fσ1 (by decide +kernel) (fun _ => by decide +kernel)
  have k_216 : (gi σ2 74 0).toInt = (gi σ1 74 0).toInt := gk_r eσ2 rfl
  have k_217 : (gi σ2 74 1).toInt = (gi σ1 74 1).toInt := gk_r eσ2 rfl
  have k_218 : (gi σ2 74 12).toInt = (gi σ1 74 12).toInt := gk_r eσ2 rfl
  have k_219 : (gi σ2 74 41).toInt = (gi σ1 74 41).toInt := gk_r eσ2 rfl
  have k_220 : (gi σ2 74 45).toInt = (gi σ1 74 45).toInt := gk_r eσ2 rfl
  have k_221 : (gi σ2 74 46).toInt = (gi σ1 74 46).toInt := gk_r eσ2 rfl
  have k_222 : (gi σ2 74 49).toInt = (gi σ1 74 49).toInt := gk_r eσ2 rfl
  have k_223 : (gi σ2 74 50).toInt = (gi σ1 74 12).toInt := by rw [eσ2]; exact congrArg Int32.toInt gi_si_eq
  have k_224 : (gi σ2 74 51).toInt = (gi σ1 74 51).toInt := gk_r eσ2 rfl
  have k_225 : (gi σ2 74 52).toInt = (gi σ1 74 52).toInt := gk_r eσ2 rfl
  have k_226 : (gi σ2 74 53).toInt = (gi σ1 74 53).toInt := gk_r eσ2 rfl
  have k_227 : (gi σ2 74 54).toInt = (gi σ1 74 54).toInt := gk_r eσ2 rfl
  have k_228 : (gi σ2 74 55).toInt = (gi σ1 74 55).toInt := gk_r eσ2 rfl
  try have hC9 : CD σ0 σ2 110 110 (6) := by rw [eσ2]; exact CD_st (by with_reducible assumption) (by decide +kernel)
  intro σ3 eσ3
  replace H := f_l eσ3 H
  have t_229 := MI_f0 mσ2
  have mσ3 : MI σ3 := by rw [eσ3]; exact MIs_f51 mσ2 (by omega) (by omega)
  have fσ3 : Fr [74, 156, 157, 158, 159, 160, 161, 162, 163, 164, 165, 166, 167, 168] [49, 50, 51, 52, 53, 54, 55] σ0 σ3 := by rw [eσ3]; exact Fr_si fσ2 (by decide +kernel) (fun _ => by decide +kernel)
  have k_230 : (gi σ3 74 0).toInt = (gi σ2 74 0).toInt := gk_r eσ3 rfl
  have k_231 : (gi σ3 74 1).toInt = (gi σ2 74 1).toInt := gk_r eσ3 rfl
  have k_232 : (gi σ3 74 12).toInt = (gi σ2 74 12).toInt := gk_r eσ3 rfl
  have k_233 : (gi σ3 74 41).toInt = (gi σ2 74 41).toInt := gk_r eσ3 rfl
  have k_234 : (gi σ3 74 45).toInt = (gi σ2 74 45).toInt := gk_r eσ3 rfl
  have k_235 : (gi σ3 74 46).toInt = (gi σ2 74 46).toInt := gk_r eσ3 rfl
  have k_236 : (gi σ3 74 49).toInt = (gi σ2 74 49).toInt := gk_r eσ3 rfl
  have k_237 : (gi σ3 74 50).toInt = (gi σ2 74 50).toInt := gk_r eσ3 rfl
  have k_238 : (gi σ3 74 51).toInt = (gi σ2 74 0).toInt := by rw [eσ3]; exact congrArg Int32.toInt gi_si_eq
  have k_239 : (gi σ3 74 52).toInt = (gi σ2 74 52).toInt := gk_r eσ3 rfl
  have k_240 : (gi σ3 74 53).toInt = (gi σ2 74 53).toInt := gk_r eσ3 rfl
  have k_241 : (gi σ3 74 54).toInt = (gi σ2 74 54).toInt := gk_r eσ3 rfl
  have k_242 : (gi σ3 74 55).toInt = (gi σ2 74 55).toInt := gk_r eσ3 rfl
  try have hC9 : CD σ0 σ3 110 110 (6) := by rw [eσ3]; exact CD_st (by with_reducible assumption) (by decide +kernel)
  intro σ4 eσ4
  replace H := f_l eσ4 H
  have t_243 := MI_f1 mσ3
  have mσ4 : MI σ4 := by rw [eσ4]; exact MIs_f52 mσ3 (by omega) (by omega)
  have fσ4 : Fr [74, 156, 157, 158, 159, 160, 161, 162, 163, 164, 165, 166, 167, 168] [49, 50, 51, 52, 53, 54, 55] σ0 σ4 := by rw [eσ4]; exact Fr_si fσ3 (by decide +kernel) (fun _ => by decide +kernel)
  have k_244 : (gi σ4 74 0).toInt = (gi σ3 74 0).toInt := gk_r eσ4 rfl
  have k_245 : (gi σ4 74 1).toInt = (gi σ3 74 1).toInt := gk_r eσ4 rfl
  have k_246 : (gi σ4 74 12).toInt = (gi σ3 74 12).toInt := gk_r eσ4 rfl
  have k_247 : (gi σ4 74 41).toInt = (gi σ3 74 41).toInt := gk_r eσ4 rfl
  have k_248 : (gi σ4 74 45).toInt = (gi σ3 74 45).toInt := gk_r eσ4 rfl
  have k_249 : (gi σ4 74 46).toInt = (gi σ3 74 46).toInt := gk_r eσ4 rfl
  have k_250 : (gi σ4 74 49).toInt = (gi σ3 74 49).toInt := gk_r eσ4 rfl
  have k_251 : (gi σ4 74 50).toInt = (gi σ3 74 50).toInt := gk_r eσ4 rfl
  have k_252 : (gi σ4 74 51).toInt = (gi σ3 74 51).toInt := gk_r eσ4 rfl
  have k_253 : (gi σ4 74 52).toInt = (gi σ3 74 1).toInt := by rw [eσ4]; exact congrArg Int32.toInt gi_si_eq
  have k_254 : (gi σ4 74 53).toInt = (gi σ3 74 53).toInt := gk_r eσ4 rfl
  have k_255 : (gi σ4 74 54).toInt = (gi σ3 74 54).toInt := gk_r eσ4 rfl
  have k_256 : (gi σ4 74 55).toInt = (gi σ3 74 55).toInt := gk_r eσ4 rfl
  try have hC9 : CD σ0 σ4 110 110 (6) := by rw [eσ4]; exact CD_st (by with_reducible assumption) (by decide +kernel)
  intro σ5 eσ5
  replace H := f_l eσ5 H
  have t_257 := MI_f41 mσ4
  have mσ5 : MI σ5 := by rw [eσ5]; exact MIs_f53 mσ4 (by omega) (by omega)
  have fσ5 : Fr [74, 156, 157, 158, 159, 160, 161, 162, 163, 164, 165, 166, 167, 168] [49, 50, 51, 52, 53, 54, 55] σ0 σ5 := by rw [eσ5]; exact Fr_si fσ4 (by decide +kernel) (fun _ => by decide +kernel)
  have k_258 : (gi σ5 74 0).toInt = (gi σ4 74 0).toInt := gk_r eσ5 rfl
  have k_259 : (gi σ5 74 1).toInt = (gi σ4 74 1).toInt := gk_r eσ5 rfl
  have k_260 : (gi σ5 74 12).toInt = (gi σ4 74 12).toInt := gk_r eσ5 rfl
  have k_261 : (gi σ5 74 41).toInt = (gi σ4 74 41).toInt := gk_r eσ5 rfl
  have k_262 : (gi σ5 74 45).toInt = (gi σ4 74 45).toInt := gk_r eσ5 rfl
  have k_263 : (gi σ5 74 46).toInt = (gi σ4 74 46).toInt := gk_r eσ5 rfl
  have k_264 : (gi σ5 74 49).toInt = (gi σ4 74 49).toInt := gk_r eσ5 rfl
  have k_265 : (gi σ5 74 50).toInt = (gi σ4 74 50).toInt := gk_r eσ5 rfl
  have k_266 : (gi σ5 74 51).toInt = (gi σ4 74 51).toInt := gk_r eσ5 rfl
  have k_267 : (gi σ5 74 52).toInt = (gi σ4 74 52).toInt := gk_r eσ5 rfl
  have k_268 : (gi σ5 74 53).toInt = (gi σ4 74 41).toInt := by rw [eσ5]; exact congrArg Int32.toInt gi_si_eq
  have k_269 : (gi σ5 74 54).toInt = (gi σ4 74 54).toInt := gk_r eσ5 rfl
  have k_270 : (gi σ5 74 55).toInt = (gi σ4 74 55).toInt := gk_r eσ5 rfl
  try have hC9 : CD σ0 σ5 110 110 (6) := by rw [eσ5]; exact CD_st (by with_reducible assumption) (by decide +kernel)
  intro σ6 eσ6
  replace H := f_l eσ6 H
  have t_271 := MI_f45 mσ5
  have mσ6 : MI σ6 := by rw [eσ6]; exact MIs_f54 mσ5 (by omega) (by omega)
  have fσ6 : Fr [74, 156, 157, 158, 159, 160, 161, 162, 163, 164, 165, 166, 167, 168] [49, 50, 51, 52, 53, 54, 55] σ0 σ6 := by rw [eσ6]; exact Fr_si fσ5 (by decide +kernel) (fun _ => by decide +kernel)
  have k_272 : (gi σ6 74 0).toInt = (gi σ5 74 0).toInt := gk_r eσ6 rfl
  have k_273 : (gi σ6 74 1).toInt = (gi σ5 74 1).toInt := gk_r eσ6 rfl
  have k_274 : (gi σ6 74 12).toInt = (gi σ5 74 12).toInt := gk_r eσ6 rfl
  have k_275 : (gi σ6 74 41).toInt = (gi σ5 74 41).toInt := gk_r eσ6 rfl
  have k_276 : (gi σ6 74 45).toInt = (gi σ5 74 45).toInt := gk_r eσ6 rfl
  have k_277 : (gi σ6 74 46).toInt = (gi σ5 74 46).toInt := gk_r eσ6 rfl
  have k_278 : (gi σ6 74 49).toInt = (gi σ5 74 49).toInt := gk_r eσ6 rfl
  have k_279 : (gi σ6 74 50).toInt = (gi σ5 74 50).toInt := gk_r eσ6 rfl
  have k_280 : (gi σ6 74 51).toInt = (gi σ5 74 51).toInt := gk_r eσ6 rfl
  have k_281 : (gi σ6 74 52).toInt = (gi σ5 74 52).toInt := gk_r eσ6 rfl
  have k_282 : (gi σ6 74 53).toInt = (gi σ5 74 53).toInt := gk_r eσ6 rfl
  have k_283 : (gi σ6 74 54).toInt = (gi σ5 74 45).toInt := by rw [eσ6]; exact congrArg Int32.toInt gi_si_eq
  have k_284 : (gi σ6 74 55).toInt = (gi σ5 74 55).toInt := gk_r eσ6 rfl
  try have hC9 : CD σ0 σ6 110 110 (6) := by rw [eσ6]; exact CD_st (by with_reducible assumption) (by decide +kernel)
  intro σ7 eσ7
  replace H := f_l eσ7 H
  have t_285 := MI_f46 mσ6
  have mσ7 : MI σ7 := by rw [eσ7]; exact MIs_f55 mσ6 (by omega) (by omega)
  have fσ7 : Fr [74, 156, 157, 158, 159, 160, 161, 162, 163, 164, 165, 166, 167, 168] [49, 50, 51, 52, 53, 54, 55] σ0 σ7 := by rw [eσ7]; exact Fr_si fσ6 (by decide +kernel) (fun _ => by decide +kernel)
  have k_286 : (gi σ7 74 0).toInt = (gi σ6 74 0).toInt := gk_r eσ7 rfl
  have k_287 : (gi σ7 74 1).toInt = (gi σ6 74 1).toInt := gk_r eσ7 rfl
  have k_288 : (gi σ7 74 12).toInt = (gi σ6 74 12).toInt := gk_r eσ7 rfl
  have k_289 : (gi σ7 74 41).toInt = (gi σ6 74 41).toInt := gk_r eσ7 rfl
  have k_290 : (gi σ7 74 45).toInt = (gi σ6 74 45).toInt := gk_r eσ7 rfl
  have k_291 : (gi σ7 74 46).toInt = (gi σ6 74 46).toInt := gk_r eσ7 rfl
  have k_292 : (gi σ7 74 49).toInt = (gi σ6 74 49).toInt := gk_r eσ7 rfl
  have k_293 : (gi σ7 74 50).toInt = (gi σ6 74 50).toInt := gk_r eσ7 rfl
  have k_294 : (gi σ7 74 51).toInt = (gi σ6 74 51).toInt := gk_r eσ7 rfl
  have k_295 : (gi σ7 74 52).toInt = (gi σ6 74 52).toInt := gk_r eσ7 rfl
  have k_296 : (gi σ7 74 53).toInt = (gi σ6 74 53).toInt := gk_r eσ7 rfl
  have k_297 : (gi σ7 74 54).toInt = (gi σ6 74 54).toInt := gk_r eσ7 rfl
  have k_298 : (gi σ7 74 55).toInt = (gi σ6 74 46).toInt := by rw [eσ7]; exact congrArg Int32.toInt gi_si_eq
  try have hC9 : CD σ0 σ7 110 110 (6) := by rw [eσ7]; exact CD_st (by with_reducible assumption) (by decide +kernel)
  have z_299 : (0 : Int32).toInt = 0 := rfl
  exact U55 (0 : Int32) σ7 mσ7 fσ7 (by omega) (by omega) (by first | with_reducible assumption | with_reducible rfl | omega | assumption | rfl) (by first | with_reducible assumption | with_reducible rfl | omega | assumption | rfl) (by first | with_reducible assumption | with_reducible rfl | omega | assumption | rfl) (by with_reducible assumption) (by first | exact CD_0 (Int.le_refl 0) | (rw [show v32.toInt = x1.toInt + 1 from by omega]; assumption)) (by first | with_reducible assumption | with_reducible rfl | omega | assumption | rfl) (by first | with_reducible assumption | with_reducible rfl | omega | assumption | rfl) (by first | with_reducible assumption | with_reducible rfl | omega | assumption | rfl) (by first | with_reducible assumption | with_reducible rfl | omega | assumption | rfl) (by first | with_reducible assumption | with_reducible rfl | omega | assumption | rfl) H (by omega)
noncomputable def LB_X12_undo_68 (rec : Nat → Int32 → Sg → Int32 × Sg) (x1 : Int32) (σ : Sg) : Int32 × Sg := (if (6 : Int32) ≤ x1 then rec 1 (0 : Int32) σ else fl (si σ 103 x1.toNatClampNeg (gi σ 156 x1.toNatClampNeg)) (fun σ4 => fl (si σ4 104 x1.toNatClampNeg (gi σ4 157 x1.toNatClampNeg)) (fun σ7 => fl (si σ7 105 x1.toNatClampNeg (gi σ7 158 x1.toNatClampNeg)) (fun σ10 => fl (si σ10 106 x1.toNatClampNeg (gi σ10 159 x1.toNatClampNeg)) (fun σ13 => fl (si σ13 107 x1.toNatClampNeg (gi σ13 160 x1.toNatClampNeg)) (fun σ16 => fl (si σ16 108 x1.toNatClampNeg (gi σ16 161 x1.toNatClampNeg)) (fun σ19 => fl (si σ19 110 x1.toNatClampNeg (gi σ19 162 x1.toNatClampNeg)) (fun σ22 => fl (si σ22 142 x1.toNatClampNeg (gi σ22 164 x1.toNatClampNeg)) (fun σ25 => fl (si σ25 143 x1.toNatClampNeg (gi σ25 165 x1.toNatClampNeg)) (fun σ28 => fl (si σ28 144 x1.toNatClampNeg (gi σ28 166 x1.toNatClampNeg)) (fun σ31 => fl (x1 + 1) (fun v32 => rec 0 v32 σ31))))))))))))
noncomputable def LB_X12_undo_202 (rec : Nat → Int32 → Sg → Int32 × Sg) (x1 : Int32) (σ : Sg) : Int32 × Sg := (if (24 : Int32) ≤ x1 then rec 2 (0 : Int32) σ else fl (si σ 109 x1.toNatClampNeg (gi σ 163 x1.toNatClampNeg)) (fun σ4 => fl (x1 + 1) (fun v5 => rec 1 v5 σ4)))
noncomputable def LB_X12_undo_228 (rec : Nat → Int32 → Sg → Int32 × Sg) (x1 : Int32) (σ : Sg) : Int32 × Sg := (if (10 : Int32) ≤ x1 then rec 3 (0 : Int32) σ else fl (si σ 147 x1.toNatClampNeg (gi σ 167 x1.toNatClampNeg)) (fun σ4 => fl (x1 + 1) (fun v5 => rec 2 v5 σ4)))
noncomputable def LB_X12_undo_254 (rec : Nat → Int32 → Sg → Int32 × Sg) (x1 : Int32) (σ : Sg) : Int32 × Sg := (if (8 : Int32) ≤ x1 then (gi σ 74 0, σ) else fl (si σ 148 x1.toNatClampNeg (gi σ 168 x1.toNatClampNeg)) (fun σ4 => fl (x1 + 1) (fun v5 => rec 3 v5 σ4)))
noncomputable def LF_X12_undo : Nat → Nat → Int32 → Sg → Int32 × Sg
  | 0, _, _, σ => (0, σ)
  | n + 1, 0, x1, σ => LB_X12_undo_68 (LF_X12_undo n) x1 σ
  | n + 1, 1, x1, σ => LB_X12_undo_202 (LF_X12_undo n) x1 σ
  | n + 1, 2, x1, σ => LB_X12_undo_228 (LF_X12_undo n) x1 σ
  | n + 1, 3, x1, σ => LB_X12_undo_254 (LF_X12_undo n) x1 σ
  | _ + 1, _ + 4, _, σ => (0, σ)
noncomputable def F_X12_undo (σ : Sg) : Int32 × Sg := (if (gi σ 74 49) = 0 then ((-3 : Int32), σ) else fl (si σ 74 12 (gi σ 74 50)) (fun σ2 => fl (si σ2 74 0 (gi σ2 74 51)) (fun σ3 => fl (si σ3 74 2 (gi σ3 74 51)) (fun σ4 => fl (si σ4 74 1 (gi σ4 74 52)) (fun σ5 => fl (si σ5 74 41 (gi σ5 74 53)) (fun σ6 => fl (si σ6 74 45 (gi σ6 74 54)) (fun σ7 => fl (si σ7 74 46 (gi σ7 74 55)) (fun σ8 => LF_X12_undo 900 0 (0 : Int32) σ8))))))))
set_option maxRecDepth 100000 in
set_option maxHeartbeats 4000000 in
theorem kF_X12_undo {l : Launch} {V : Vx} {σ0 : Sg} {Qk : Int32 → Sg → Prop} (m0 : MI σ0) (pre0 : PL σ0) (pre1 : PLI σ0) (pre2 : (gi σ0 74 1).toInt ≤ 9999) (pre3 : (gi σ0 74 52).toInt ≤ 9999) (pre4 : (gi σ0 74 12).toInt < (gi σ0 74 11).toInt) (pre5 : (gi σ0 74 50).toInt < (gi σ0 74 11).toInt) (h9ret : ∀ (r : Int32) (σ' : Sg), MI σ' → Fr [74, 103, 104, 105, 106, 107, 108, 109, 110, 142, 143, 144, 147, 148] [0, 1, 2, 12, 41, 45, 46] σ0 σ' → (PL σ') → ((gi σ' 74 1).toInt ≤ 9999) → ((gi σ' 74 12).toInt < (gi σ' 74 11).toInt) → (((gi σ0 74 49).toInt = 0 → r.toInt = -3 ∧ (gi σ' 74 0).toInt = (gi σ0 74 0).toInt ∧ (gi σ' 74 45).toInt = (gi σ0 74 45).toInt ∧ (gi σ' 74 46).toInt = (gi σ0 74 46).toInt ∧ (gi σ' 74 1).toInt = (gi σ0 74 1).toInt ∧ (gi σ' 74 41).toInt = (gi σ0 74 41).toInt) ∧ ((gi σ0 74 49).toInt ≠ 0 → r.toInt = (gi σ0 74 51).toInt ∧ (gi σ' 74 0).toInt = (gi σ0 74 51).toInt ∧ (gi σ' 74 45).toInt = (gi σ0 74 54).toInt ∧ (gi σ' 74 46).toInt = (gi σ0 74 55).toInt ∧ (gi σ' 74 1).toInt = (gi σ0 74 52).toInt ∧ (gi σ' 74 41).toInt = (gi σ0 74 53).toInt)) → (F_X12_undo σ0 = (r, σ')) → Qk r σ') : K_X12_undo l V σ0 Qk := by
  refine e_X12_undo (fun M hl hV hN C => ?_)
  subst hl
  subst hV
  obtain ⟨R9, H0⟩ : ∃ R9, F_X12_undo σ0 = R9 := ⟨_, rfl⟩
  have T : ∀ n : Nat, (∀ (x1 : Int32) (σ : Sg), MI σ → Fr [74, 103, 104, 105, 106, 107, 108, 109, 110, 142, 143, 144, 147, 148] [0, 1, 2, 12, 41, 45, 46] σ0 σ → (0 ≤ x1.toInt) → (x1.toInt ≤ 6) → ((gi σ 74 11).toInt = (gi σ0 74 11).toInt) → ((gi σ 74 0).toInt = (gi σ0 74 51).toInt) → ((gi σ 74 1).toInt = (gi σ0 74 52).toInt) → ((gi σ 74 12).toInt = (gi σ0 74 50).toInt) → (CD σ0 σ 162 162 6) → (CD σ0 σ 110 162 x1.toInt) → ((gi σ0 74 49).toInt ≠ 0) → ((gi σ 74 45).toInt = (gi σ0 74 54).toInt) → ((gi σ 74 46).toInt = (gi σ0 74 55).toInt) → ((gi σ 74 0).toInt = (gi σ0 74 51).toInt) → ((gi σ 74 1).toInt = (gi σ0 74 52).toInt) → ((gi σ 74 41).toInt = (gi σ0 74 53).toInt) → (LF_X12_undo n 0 x1 σ = R9) → (7 - x1.toInt).toNat + 300 < n → PS M 68 [(0, .ref 74), (1, .int x1)] [] σ (0, 0)) ∧ (∀ (x1 : Int32) (σ : Sg), MI σ → Fr [74, 103, 104, 105, 106, 107, 108, 109, 110, 142, 143, 144, 147, 148] [0, 1, 2, 12, 41, 45, 46] σ0 σ → (0 ≤ x1.toInt) → (x1.toInt ≤ 24) → ((gi σ 74 11).toInt = (gi σ0 74 11).toInt) → ((gi σ 74 0).toInt = (gi σ0 74 51).toInt) → ((gi σ 74 1).toInt = (gi σ0 74 52).toInt) → ((gi σ 74 12).toInt = (gi σ0 74 50).toInt) → (CD σ0 σ 110 162 6) → ((gi σ0 74 49).toInt ≠ 0) → ((gi σ 74 45).toInt = (gi σ0 74 54).toInt) → ((gi σ 74 46).toInt = (gi σ0 74 55).toInt) → ((gi σ 74 0).toInt = (gi σ0 74 51).toInt) → ((gi σ 74 1).toInt = (gi σ0 74 52).toInt) → ((gi σ 74 41).toInt = (gi σ0 74 53).toInt) → (LF_X12_undo n 1 x1 σ = R9) → (25 - x1.toInt).toNat + 200 < n → PS M 202 [(0, .ref 74), (1, .int x1)] [] σ (0, 0)) ∧ (∀ (x1 : Int32) (σ : Sg), MI σ → Fr [74, 103, 104, 105, 106, 107, 108, 109, 110, 142, 143, 144, 147, 148] [0, 1, 2, 12, 41, 45, 46] σ0 σ → (0 ≤ x1.toInt) → (x1.toInt ≤ 10) → ((gi σ 74 11).toInt = (gi σ0 74 11).toInt) → ((gi σ 74 0).toInt = (gi σ0 74 51).toInt) → ((gi σ 74 1).toInt = (gi σ0 74 52).toInt) → ((gi σ 74 12).toInt = (gi σ0 74 50).toInt) → (CD σ0 σ 110 162 6) → ((gi σ0 74 49).toInt ≠ 0) → ((gi σ 74 45).toInt = (gi σ0 74 54).toInt) → ((gi σ 74 46).toInt = (gi σ0 74 55).toInt) → ((gi σ 74 0).toInt = (gi σ0 74 51).toInt) → ((gi σ 74 1).toInt = (gi σ0 74 52).toInt) → ((gi σ 74 41).toInt = (gi σ0 74 53).toInt) → (LF_X12_undo n 2 x1 σ = R9) → (11 - x1.toInt).toNat + 100 < n → PS M 228 [(0, .ref 74), (1, .int x1)] [] σ (0, 0)) ∧ (∀ (x1 : Int32) (σ : Sg), MI σ → Fr [74, 103, 104, 105, 106, 107, 108, 109, 110, 142, 143, 144, 147, 148] [0, 1, 2, 12, 41, 45, 46] σ0 σ → (0 ≤ x1.toInt) → (x1.toInt ≤ 8) → ((gi σ 74 11).toInt = (gi σ0 74 11).toInt) → ((gi σ 74 0).toInt = (gi σ0 74 51).toInt) → ((gi σ 74 1).toInt = (gi σ0 74 52).toInt) → ((gi σ 74 12).toInt = (gi σ0 74 50).toInt) → (CD σ0 σ 110 162 6) → ((gi σ0 74 49).toInt ≠ 0) → ((gi σ 74 45).toInt = (gi σ0 74 54).toInt) → ((gi σ 74 46).toInt = (gi σ0 74 55).toInt) → ((gi σ 74 0).toInt = (gi σ0 74 51).toInt) → ((gi σ 74 1).toInt = (gi σ0 74 52).toInt) → ((gi σ 74 41).toInt = (gi σ0 74 53).toInt) → (LF_X12_undo n 3 x1 σ = R9) → (9 - x1.toInt).toNat < n → PS M 254 [(0, .ref 74), (1, .int x1)] [] σ (0, 0)) := by
    intro n
    induction n with
    | zero => exact ⟨fun _ _ _ _ _ _ _ _ _ _ _ _ _ _ _ _ _ _ _ h8 => absurd h8 (Nat.not_lt_zero _), fun _ _ _ _ _ _ _ _ _ _ _ _ _ _ _ _ _ _ h8 => absurd h8 (Nat.not_lt_zero _), fun _ _ _ _ _ _ _ _ _ _ _ _ _ _ _ _ _ _ h8 => absurd h8 (Nat.not_lt_zero _), fun _ _ _ _ _ _ _ _ _ _ _ _ _ _ _ _ _ _ h8 => absurd h8 (Nat.not_lt_zero _)⟩
    | succ n ih =>
      obtain ⟨ih68, ih202, ih228, ih254⟩ := ih
      refine ⟨?_, ?_, ?_, ?_⟩
      · intro x1 σ mσ fσ lx1 ux1 i0 i1 i2 i3 i4 i5 i6 i7 i8 i9 i10 i11 H hmu
        replace H : LB_X12_undo_68 (LF_X12_undo n) x1 σ = R9 := H
        unfold LB_X12_undo_68 at H
        refine s_X12_undo_68 C hN ?_
        refine ⟨?_, ?_⟩
        · intro q_1
          replace H := f_t q_1 H
          have b_2 : (6 : Int) ≤ x1.toInt := Int32.le_iff_toInt_le.mp q_1
          have z_3 : (0 : Int32).toInt = 0 := rfl
          exact ih202 (0 : Int32) σ mσ fσ (by omega) (by omega) (by first | with_reducible assumption | with_reducible rfl | omega | assumption | rfl) (by first | with_reducible assumption | with_reducible rfl | omega | assumption | rfl) (by first | with_reducible assumption | with_reducible rfl | omega | assumption | rfl) (by first | with_reducible assumption | with_reducible rfl | omega | assumption | rfl) (by first | assumption | exact CD_le (by with_reducible assumption) (by omega)) (by first | with_reducible assumption | with_reducible rfl | omega | assumption | rfl) (by first | with_reducible assumption | with_reducible rfl | omega | assumption | rfl) (by first | with_reducible assumption | with_reducible rfl | omega | assumption | rfl) (by first | with_reducible assumption | with_reducible rfl | omega | assumption | rfl) (by first | with_reducible assumption | with_reducible rfl | omega | assumption | rfl) (by first | with_reducible assumption | with_reducible rfl | omega | assumption | rfl) H (by omega)
        · intro q_1
          replace H := f_f q_1 H
          have b_4 : ¬ (6 : Int) ≤ x1.toInt := fun h9 => q_1 (Int32.le_iff_toInt_le.mpr h9)
          have hv_5 : vp_in x1 6 := vp_in_iff.mpr ⟨by omega, by omega⟩
          refine ⟨hv_5, ?_⟩
          refine ⟨hv_5, ?_⟩
          intro σ4 eσ4
          replace H := f_l eσ4 H
          have mσ4 : MI σ4 := by rw [eσ4]; exact MIs_au (a := 103) mσ rfl rfl
          have fσ4 : Fr [74, 103, 104, 105, 106, 107, 108, 109, 110, 142, 143, 144, 147, 148] [0, 1, 2, 12, 41, 45, 46] σ0 σ4 := by rw [eσ4]; exact Fr_si fσ (by decide +kernel) (fun h9 => absurd h9 (by decide +kernel))
          have k_6 : (gi σ4 74 0).toInt = (gi σ 74 0).toInt := gk_l eσ4 rfl
          have k_7 : (gi σ4 74 1).toInt = (gi σ 74 1).toInt := gk_l eσ4 rfl
          have k_8 : (gi σ4 74 11).toInt = (gi σ 74 11).toInt := gk_l eσ4 rfl
          have k_9 : (gi σ4 74 12).toInt = (gi σ 74 12).toInt := gk_l eσ4 rfl
          have k_10 : (gi σ4 74 41).toInt = (gi σ 74 41).toInt := gk_l eσ4 rfl
          have k_11 : (gi σ4 74 45).toInt = (gi σ 74 45).toInt := gk_l eσ4 rfl
          have k_12 : (gi σ4 74 46).toInt = (gi σ 74 46).toInt := gk_l eσ4 rfl
          have k_13 : (gi σ4 74 49).toInt = (gi σ 74 49).toInt := gk_l eσ4 rfl
          have k_14 : (gi σ4 74 50).toInt = (gi σ 74 50).toInt := gk_l eσ4 rfl
          have k_15 : (gi σ4 74 51).toInt = (gi σ 74 51).toInt := gk_l eσ4 rfl
          have k_16 : (gi σ4 74 52).toInt = (gi σ 74 52).toInt := gk_l eσ4 rfl
          have k_17 : (gi σ4 74 53).toInt = (gi σ 74 53).toInt := gk_l eσ4 rfl
          have k_18 : (gi σ4 74 54).toInt = (gi σ 74 54).toInt := gk_l eσ4 rfl
          have k_19 : (gi σ4 74 55).toInt = (gi σ 74 55).toInt := gk_l eσ4 rfl
          try have hC9 : CD σ0 σ4 162 162 (6) := by rw [eσ4]; exact CD_st (by with_reducible assumption) (by decide +kernel)
          try have hC9 : CD σ0 σ4 110 162 (6) := by rw [eσ4]; exact CD_st (by with_reducible assumption) (by decide +kernel)
          try have hC9 : CD σ0 σ4 110 162 (x1.toInt) := by rw [eσ4]; exact CD_st (by with_reducible assumption) (by decide +kernel)
          try have hD9 : CD σ0 σ4 110 162 (x1.toInt + 1) := by rw [eσ4]; first | exact CD_st (by with_reducible assumption) (by decide +kernel) | exact CD_step (c := 162) (by with_reducible assumption) (by with_reducible assumption) (by omega) (by omega)
          refine ⟨hv_5, ?_⟩
          refine ⟨hv_5, ?_⟩
          intro σ7 eσ7
          replace H := f_l eσ7 H
          have mσ7 : MI σ7 := by rw [eσ7]; exact MIs_au (a := 104) mσ4 rfl rfl
          have fσ7 : Fr [74, 103, 104, 105, 106, 107, 108, 109, 110, 142, 143, 144, 147, 148] [0, 1, 2, 12, 41, 45, 46] σ0 σ7 := by rw [eσ7]; exact Fr_si fσ4 (by decide +kernel) (fun h9 => absurd h9 (by decide +kernel))
          have k_20 : (gi σ7 74 0).toInt = (gi σ4 74 0).toInt := gk_l eσ7 rfl
          have k_21 : (gi σ7 74 1).toInt = (gi σ4 74 1).toInt := gk_l eσ7 rfl
          have k_22 : (gi σ7 74 11).toInt = (gi σ4 74 11).toInt := gk_l eσ7 rfl
          have k_23 : (gi σ7 74 12).toInt = (gi σ4 74 12).toInt := gk_l eσ7 rfl
          have k_24 : (gi σ7 74 41).toInt = (gi σ4 74 41).toInt := gk_l eσ7 rfl
          have k_25 : (gi σ7 74 45).toInt = (gi σ4 74 45).toInt := gk_l eσ7 rfl
          have k_26 : (gi σ7 74 46).toInt = (gi σ4 74 46).toInt := gk_l eσ7 rfl
          have k_27 : (gi σ7 74 49).toInt = (gi σ4 74 49).toInt := gk_l eσ7 rfl
          have k_28 : (gi σ7 74 50).toInt = (gi σ4 74 50).toInt := gk_l eσ7 rfl
          have k_29 : (gi σ7 74 51).toInt = (gi σ4 74 51).toInt := gk_l eσ7 rfl
          have k_30 : (gi σ7 74 52).toInt = (gi σ4 74 52).toInt := gk_l eσ7 rfl
          have k_31 : (gi σ7 74 53).toInt = (gi σ4 74 53).toInt := gk_l eσ7 rfl
          have k_32 : (gi σ7 74 54).toInt = (gi σ4 74 54).toInt := gk_l eσ7 rfl
          have k_33 : (gi σ7 74 55).toInt = (gi σ4 74 55).toInt := gk_l eσ7 rfl
          try have hC9 : CD σ0 σ7 162 162 (6) := by rw [eσ7]; exact CD_st (by with_reducible assumption) (by decide +kernel)
          try have hC9 : CD σ0 σ7 110 162 (6) := by rw [eσ7]; exact CD_st (by with_reducible assumption) (by decide +kernel)
          try have hC9 : CD σ0 σ7 110 162 (x1.toInt) := by rw [eσ7]; exact CD_st (by with_reducible assumption) (by decide +kernel)
          try have hD9 : CD σ0 σ7 110 162 (x1.toInt + 1) := by rw [eσ7]; first | exact CD_st (by with_reducible assumption) (by decide +kernel) | exact CD_step (c := 162) (by with_reducible assumption) (by with_reducible assumption) (by omega) (by omega)
          refine ⟨hv_5, ?_⟩
          refine ⟨hv_5, ?_⟩
          intro σ10 eσ10
          replace H := f_l eσ10 H
          have t_34 := MI_a158 mσ7 hv_5
          have mσ10 : MI σ10 := by rw [eσ10]; exact MIs_a105 mσ7 (by omega) (by omega)
          have fσ10 : Fr [74, 103, 104, 105, 106, 107, 108, 109, 110, 142, 143, 144, 147, 148] [0, 1, 2, 12, 41, 45, 46] σ0 σ10 := by rw [eσ10]; exact Fr_si fσ7 (by decide +kernel) (fun h9 => absurd h9 (by decide +kernel))
          have k_35 : (gi σ10 74 0).toInt = (gi σ7 74 0).toInt := gk_l eσ10 rfl
          have k_36 : (gi σ10 74 1).toInt = (gi σ7 74 1).toInt := gk_l eσ10 rfl
          have k_37 : (gi σ10 74 11).toInt = (gi σ7 74 11).toInt := gk_l eσ10 rfl
          have k_38 : (gi σ10 74 12).toInt = (gi σ7 74 12).toInt := gk_l eσ10 rfl
          have k_39 : (gi σ10 74 41).toInt = (gi σ7 74 41).toInt := gk_l eσ10 rfl
          have k_40 : (gi σ10 74 45).toInt = (gi σ7 74 45).toInt := gk_l eσ10 rfl
          have k_41 : (gi σ10 74 46).toInt = (gi σ7 74 46).toInt := gk_l eσ10 rfl
          have k_42 : (gi σ10 74 49).toInt = (gi σ7 74 49).toInt := gk_l eσ10 rfl
          have k_43 : (gi σ10 74 50).toInt = (gi σ7 74 50).toInt := gk_l eσ10 rfl
          have k_44 : (gi σ10 74 51).toInt = (gi σ7 74 51).toInt := gk_l eσ10 rfl
          have k_45 : (gi σ10 74 52).toInt = (gi σ7 74 52).toInt := gk_l eσ10 rfl
          have k_46 : (gi σ10 74 53).toInt = (gi σ7 74 53).toInt := gk_l eσ10 rfl
          have k_47 : (gi σ10 74 54).toInt = (gi σ7 74 54).toInt := gk_l eσ10 rfl
          have k_48 : (gi σ10 74 55).toInt = (gi σ7 74 55).toInt := gk_l eσ10 rfl
          try have hC9 : CD σ0 σ10 162 162 (6) := by rw [eσ10]; exact CD_st (by with_reducible assumption) (by decide +kernel)
          try have hC9 : CD σ0 σ10 110 162 (6) := by rw [eσ10]; exact CD_st (by with_reducible assumption) (by decide +kernel)
          try have hC9 : CD σ0 σ10 110 162 (x1.toInt) := by rw [eσ10]; exact CD_st (by with_reducible assumption) (by decide +kernel)
          try have hD9 : CD σ0 σ10 110 162 (x1.toInt + 1) := by rw [eσ10]; first | exact CD_st (by with_reducible assumption) (by decide +kernel) | exact CD_step (c := 162) (by with_reducible assumption) (by with_reducible assumption) (by omega) (by omega)
          refine ⟨hv_5, ?_⟩
          refine ⟨hv_5, ?_⟩
          intro σ13 eσ13
          replace H := f_l eσ13 H
          have mσ13 : MI σ13 := by rw [eσ13]; exact MIs_au (a := 106) mσ10 rfl rfl
          have fσ13 : Fr [74, 103, 104, 105, 106, 107, 108, 109, 110, 142, 143, 144, 147, 148] [0, 1, 2, 12, 41, 45, 46] σ0 σ13 := by rw [eσ13]; exact Fr_si fσ10 (by decide +kernel) (fun h9 => absurd h9 (by decide +kernel))
          have k_49 : (gi σ13 74 0).toInt = (gi σ10 74 0).toInt := gk_l eσ13 rfl
          have k_50 : (gi σ13 74 1).toInt = (gi σ10 74 1).toInt := gk_l eσ13 rfl
          have k_51 : (gi σ13 74 11).toInt = (gi σ10 74 11).toInt := gk_l eσ13 rfl
          have k_52 : (gi σ13 74 12).toInt = (gi σ10 74 12).toInt := gk_l eσ13 rfl
          have k_53 : (gi σ13 74 41).toInt = (gi σ10 74 41).toInt := gk_l eσ13 rfl
          have k_54 : (gi σ13 74 45).toInt = (gi σ10 74 45).toInt := gk_l eσ13 rfl
          have k_55 : (gi σ13 74 46).toInt = (gi σ10 74 46).toInt := gk_l eσ13 rfl
          have k_56 : (gi σ13 74 49).toInt = (gi σ10 74 49).toInt := gk_l eσ13 rfl
          have k_57 : (gi σ13 74 50).toInt = (gi σ10 74 50).toInt := gk_l eσ13 rfl
          have k_58 : (gi σ13 74 51).toInt = (gi σ10 74 51).toInt := gk_l eσ13 rfl
          have k_59 : (gi σ13 74 52).toInt = (gi σ10 74 52).toInt := gk_l eσ13 rfl
          have k_60 : (gi σ13 74 53).toInt = (gi σ10 74 53).toInt := gk_l eσ13 rfl
          have k_61 : (gi σ13 74 54).toInt = (gi σ10 74 54).toInt := gk_l eσ13 rfl
          have k_62 : (gi σ13 74 55).toInt = (gi σ10 74 55).toInt := gk_l eσ13 rfl
          try have hC9 : CD σ0 σ13 162 162 (6) := by rw [eσ13]; exact CD_st (by with_reducible assumption) (by decide +kernel)
          try have hC9 : CD σ0 σ13 110 162 (6) := by rw [eσ13]; exact CD_st (by with_reducible assumption) (by decide +kernel)
          try have hC9 : CD σ0 σ13 110 162 (x1.toInt) := by rw [eσ13]; exact CD_st (by with_reducible assumption) (by decide +kernel)
          try have hD9 : CD σ0 σ13 110 162 (x1.toInt + 1) := by rw [eσ13]; first | exact CD_st (by with_reducible assumption) (by decide +kernel) | exact CD_step (c := 162) (by with_reducible assumption) (by with_reducible assumption) (by omega) (by omega)
          refine ⟨hv_5, ?_⟩
          refine ⟨hv_5, ?_⟩
          intro σ16 eσ16
          replace H := f_l eσ16 H
          have mσ16 : MI σ16 := by rw [eσ16]; exact MIs_au (a := 107) mσ13 rfl rfl
          have fσ16 : Fr [74, 103, 104, 105, 106, 107, 108, 109, 110, 142, 143, 144, 147, 148] [0, 1, 2, 12, 41, 45, 46] σ0 σ16 := by rw [eσ16]; exact Fr_si fσ13 (by decide +kernel) (fun h9 => absurd h9 (by decide +kernel))
          have k_63 : (gi σ16 74 0).toInt = (gi σ13 74 0).toInt := gk_l eσ16 rfl
          have k_64 : (gi σ16 74 1).toInt = (gi σ13 74 1).toInt := gk_l eσ16 rfl
          have k_65 : (gi σ16 74 11).toInt = (gi σ13 74 11).toInt := gk_l eσ16 rfl
          have k_66 : (gi σ16 74 12).toInt = (gi σ13 74 12).toInt := gk_l eσ16 rfl
          have k_67 : (gi σ16 74 41).toInt = (gi σ13 74 41).toInt := gk_l eσ16 rfl
          have k_68 : (gi σ16 74 45).toInt = (gi σ13 74 45).toInt := gk_l eσ16 rfl
          have k_69 : (gi σ16 74 46).toInt = (gi σ13 74 46).toInt := gk_l eσ16 rfl
          have k_70 : (gi σ16 74 49).toInt = (gi σ13 74 49).toInt := gk_l eσ16 rfl
          have k_71 : (gi σ16 74 50).toInt = (gi σ13 74 50).toInt := gk_l eσ16 rfl
          have k_72 : (gi σ16 74 51).toInt = (gi σ13 74 51).toInt := gk_l eσ16 rfl
          have k_73 : (gi σ16 74 52).toInt = (gi σ13 74 52).toInt := gk_l eσ16 rfl
          have k_74 : (gi σ16 74 53).toInt = (gi σ13 74 53).toInt := gk_l eσ16 rfl
          have k_75 : (gi σ16 74 54).toInt = (gi σ13 74 54).toInt := gk_l eσ16 rfl
          have k_76 : (gi σ16 74 55).toInt = (gi σ13 74 55).toInt := gk_l eσ16 rfl
          try have hC9 : CD σ0 σ16 162 162 (6) := by rw [eσ16]; exact CD_st (by with_reducible assumption) (by decide +kernel)
          try have hC9 : CD σ0 σ16 110 162 (6) := by rw [eσ16]; exact CD_st (by with_reducible assumption) (by decide +kernel)
          try have hC9 : CD σ0 σ16 110 162 (x1.toInt) := by rw [eσ16]; exact CD_st (by with_reducible assumption) (by decide +kernel)
          try have hD9 : CD σ0 σ16 110 162 (x1.toInt + 1) := by rw [eσ16]; first | exact CD_st (by with_reducible assumption) (by decide +kernel) | exact CD_step (c := 162) (by with_reducible assumption) (by with_reducible assumption) (by omega) (by omega)
          refine ⟨hv_5, ?_⟩
          refine ⟨hv_5, ?_⟩
          intro σ19 eσ19
          replace H := f_l eσ19 H
          have mσ19 : MI σ19 := by rw [eσ19]; exact MIs_au (a := 108) mσ16 rfl rfl
          have fσ19 : Fr [74, 103, 104, 105, 106, 107, 108, 109, 110, 142, 143, 144, 147, 148] [0, 1, 2, 12, 41, 45, 46] σ0 σ19 := by rw [eσ19]; exact Fr_si fσ16 (by decide +kernel) (fun h9 => absurd h9 (by decide +kernel))
          have k_77 : (gi σ19 74 0).toInt = (gi σ16 74 0).toInt := gk_l eσ19 rfl
          have k_78 : (gi σ19 74 1).toInt = (gi σ16 74 1).toInt := gk_l eσ19 rfl
          have k_79 : (gi σ19 74 11).toInt = (gi σ16 74 11).toInt := gk_l eσ19 rfl
          have k_80 : (gi σ19 74 12).toInt = (gi σ16 74 12).toInt := gk_l eσ19 rfl
          have k_81 : (gi σ19 74 41).toInt = (gi σ16 74 41).toInt := gk_l eσ19 rfl
          have k_82 : (gi σ19 74 45).toInt = (gi σ16 74 45).toInt := gk_l eσ19 rfl
          have k_83 : (gi σ19 74 46).toInt = (gi σ16 74 46).toInt := gk_l eσ19 rfl
          have k_84 : (gi σ19 74 49).toInt = (gi σ16 74 49).toInt := gk_l eσ19 rfl
          have k_85 : (gi σ19 74 50).toInt = (gi σ16 74 50).toInt := gk_l eσ19 rfl
          have k_86 : (gi σ19 74 51).toInt = (gi σ16 74 51).toInt := gk_l eσ19 rfl
          have k_87 : (gi σ19 74 52).toInt = (gi σ16 74 52).toInt := gk_l eσ19 rfl
          have k_88 : (gi σ19 74 53).toInt = (gi σ16 74 53).toInt := gk_l eσ19 rfl
          have k_89 : (gi σ19 74 54).toInt = (gi σ16 74 54).toInt := gk_l eσ19 rfl
          have k_90 : (gi σ19 74 55).toInt = (gi σ16 74 55).toInt := gk_l eσ19 rfl
          try have hC9 : CD σ0 σ19 162 162 (6) := by rw [eσ19]; exact CD_st (by with_reducible assumption) (by decide +kernel)
          try have hC9 : CD σ0 σ19 110 162 (6) := by rw [eσ19]; exact CD_st (by with_reducible assumption) (by decide +kernel)
          try have hC9 : CD σ0 σ19 110 162 (x1.toInt) := by rw [eσ19]; exact CD_st (by with_reducible assumption) (by decide +kernel)
          try have hD9 : CD σ0 σ19 110 162 (x1.toInt + 1) := by rw [eσ19]; first | exact CD_st (by with_reducible assumption) (by decide +kernel) | exact CD_step (c := 162) (by with_reducible assumption) (by with_reducible assumption) (by omega) (by omega)
          refine ⟨hv_5, ?_⟩
          refine ⟨hv_5, ?_⟩
          intro σ22 eσ22
          replace H := f_l eσ22 H
          have t_91 := MI_a162 mσ19 hv_5
          have mσ22 : MI σ22 := by rw [eσ22]; exact MIs_a110 mσ19 (by omega) (by omega)
          have fσ22 : Fr [74, 103, 104, 105, 106, 107, 108, 109, 110, 142, 143, 144, 147, 148] [0, 1, 2, 12, 41, 45, 46] σ0 σ22 := by rw [eσ22]; exact Fr_si fσ19 (by decide +kernel) (fun h9 => absurd h9 (by decide +kernel))
          have k_92 : (gi σ22 74 0).toInt = (gi σ19 74 0).toInt := gk_l eσ22 rfl
          have k_93 : (gi σ22 74 1).toInt = (gi σ19 74 1).toInt := gk_l eσ22 rfl
          have k_94 : (gi σ22 74 11).toInt = (gi σ19 74 11).toInt := gk_l eσ22 rfl
          have k_95 : (gi σ22 74 12).toInt = (gi σ19 74 12).toInt := gk_l eσ22 rfl
          have k_96 : (gi σ22 74 41).toInt = (gi σ19 74 41).toInt := gk_l eσ22 rfl
          have k_97 : (gi σ22 74 45).toInt = (gi σ19 74 45).toInt := gk_l eσ22 rfl
          have k_98 : (gi σ22 74 46).toInt = (gi σ19 74 46).toInt := gk_l eσ22 rfl
          have k_99 : (gi σ22 74 49).toInt = (gi σ19 74 49).toInt := gk_l eσ22 rfl
          have k_100 : (gi σ22 74 50).toInt = (gi σ19 74 50).toInt := gk_l eσ22 rfl
          have k_101 : (gi σ22 74 51).toInt = (gi σ19 74 51).toInt := gk_l eσ22 rfl
          have k_102 : (gi σ22 74 52).toInt = (gi σ19 74 52).toInt := gk_l eσ22 rfl
          have k_103 : (gi σ22 74 53).toInt = (gi σ19 74 53).toInt := gk_l eσ22 rfl
          have k_104 : (gi σ22 74 54).toInt = (gi σ19 74 54).toInt := gk_l eσ22 rfl
          have k_105 : (gi σ22 74 55).toInt = (gi σ19 74 55).toInt := gk_l eσ22 rfl
          try have hC9 : CD σ0 σ22 162 162 (6) := by rw [eσ22]; exact CD_st (by with_reducible assumption) (by decide +kernel)
          try have hC9 : CD σ0 σ22 110 162 (6) := by rw [eσ22]; exact CD_st (by with_reducible assumption) (by decide +kernel)
          try have hC9 : CD σ0 σ22 110 162 (x1.toInt) := by rw [eσ22]; exact CD_st (by with_reducible assumption) (by decide +kernel)
          try have hD9 : CD σ0 σ22 110 162 (x1.toInt + 1) := by rw [eσ22]; first | exact CD_st (by with_reducible assumption) (by decide +kernel) | exact CD_step (c := 162) (by with_reducible assumption) (by with_reducible assumption) (by omega) (by omega)
          refine ⟨hv_5, ?_⟩
          refine ⟨hv_5, ?_⟩
          intro σ25 eσ25
          replace H := f_l eσ25 H
          have t_106 := MI_a164 mσ22 hv_5
          have mσ25 : MI σ25 := by rw [eσ25]; exact MIs_a142 mσ22 (by omega) (by omega)
          have fσ25 : Fr [74, 103, 104, 105, 106, 107, 108, 109, 110, 142, 143, 144, 147, 148] [0, 1, 2, 12, 41, 45, 46] σ0 σ25 := by rw [eσ25]; exact Fr_si fσ22 (by decide +kernel) (fun h9 => absurd h9 (by decide +kernel))
          have k_107 : (gi σ25 74 0).toInt = (gi σ22 74 0).toInt := gk_l eσ25 rfl
          have k_108 : (gi σ25 74 1).toInt = (gi σ22 74 1).toInt := gk_l eσ25 rfl
          have k_109 : (gi σ25 74 11).toInt = (gi σ22 74 11).toInt := gk_l eσ25 rfl
          have k_110 : (gi σ25 74 12).toInt = (gi σ22 74 12).toInt := gk_l eσ25 rfl
          have k_111 : (gi σ25 74 41).toInt = (gi σ22 74 41).toInt := gk_l eσ25 rfl
          have k_112 : (gi σ25 74 45).toInt = (gi σ22 74 45).toInt := gk_l eσ25 rfl
          have k_113 : (gi σ25 74 46).toInt = (gi σ22 74 46).toInt := gk_l eσ25 rfl
          have k_114 : (gi σ25 74 49).toInt = (gi σ22 74 49).toInt := gk_l eσ25 rfl
          have k_115 : (gi σ25 74 50).toInt = (gi σ22 74 50).toInt := gk_l eσ25 rfl
          have k_116 : (gi σ25 74 51).toInt = (gi σ22 74 51).toInt := gk_l eσ25 rfl
          have k_117 : (gi σ25 74 52).toInt = (gi σ22 74 52).toInt := gk_l eσ25 rfl
          have k_118 : (gi σ25 74 53).toInt = (gi σ22 74 53).toInt := gk_l eσ25 rfl
          have k_119 : (gi σ25 74 54).toInt = (gi σ22 74 54).toInt := gk_l eσ25 rfl
          have k_120 : (gi σ25 74 55).toInt = (gi σ22 74 55).toInt := gk_l eσ25 rfl
          try have hC9 : CD σ0 σ25 162 162 (6) := by rw [eσ25]; exact CD_st (by with_reducible assumption) (by decide +kernel)
          try have hC9 : CD σ0 σ25 110 162 (6) := by rw [eσ25]; exact CD_st (by with_reducible assumption) (by decide +kernel)
          try have hC9 : CD σ0 σ25 110 162 (x1.toInt) := by rw [eσ25]; exact CD_st (by with_reducible assumption) (by decide +kernel)
          try have hD9 : CD σ0 σ25 110 162 (x1.toInt + 1) := by rw [eσ25]; first | exact CD_st (by with_reducible assumption) (by decide +kernel) | exact CD_step (c := 162) (by with_reducible assumption) (by with_reducible assumption) (by omega) (by omega)
          refine ⟨hv_5, ?_⟩
          refine ⟨hv_5, ?_⟩
          intro σ28 eσ28
          replace H := f_l eσ28 H
          have t_121 := MI_a165 mσ25 hv_5
          have mσ28 : MI σ28 := by rw [eσ28]; exact MIs_a143 mσ25 (by omega) (by omega)
          have fσ28 : Fr [74, 103, 104, 105, 106, 107, 108, 109, 110, 142, 143, 144, 147, 148] [0, 1, 2, 12, 41, 45, 46] σ0 σ28 := by rw [eσ28]; exact Fr_si fσ25 (by decide +kernel) (fun h9 => absurd h9 (by decide +kernel))
          have k_122 : (gi σ28 74 0).toInt = (gi σ25 74 0).toInt := gk_l eσ28 rfl
          have k_123 : (gi σ28 74 1).toInt = (gi σ25 74 1).toInt := gk_l eσ28 rfl
          have k_124 : (gi σ28 74 11).toInt = (gi σ25 74 11).toInt := gk_l eσ28 rfl
          have k_125 : (gi σ28 74 12).toInt = (gi σ25 74 12).toInt := gk_l eσ28 rfl
          have k_126 : (gi σ28 74 41).toInt = (gi σ25 74 41).toInt := gk_l eσ28 rfl
          have k_127 : (gi σ28 74 45).toInt = (gi σ25 74 45).toInt := gk_l eσ28 rfl
          have k_128 : (gi σ28 74 46).toInt = (gi σ25 74 46).toInt := gk_l eσ28 rfl
          have k_129 : (gi σ28 74 49).toInt = (gi σ25 74 49).toInt := gk_l eσ28 rfl
          have k_130 : (gi σ28 74 50).toInt = (gi σ25 74 50).toInt := gk_l eσ28 rfl
          have k_131 : (gi σ28 74 51).toInt = (gi σ25 74 51).toInt := gk_l eσ28 rfl
          have k_132 : (gi σ28 74 52).toInt = (gi σ25 74 52).toInt := gk_l eσ28 rfl
          have k_133 : (gi σ28 74 53).toInt = (gi σ25 74 53).toInt := gk_l eσ28 rfl
          have k_134 : (gi σ28 74 54).toInt = (gi σ25 74 54).toInt := gk_l eσ28 rfl
          have k_135 : (gi σ28 74 55).toInt = (gi σ25 74 55).toInt := gk_l eσ28 rfl
          try have hC9 : CD σ0 σ28 162 162 (6) := by rw [eσ28]; exact CD_st (by with_reducible assumption) (by decide +kernel)
          try have hC9 : CD σ0 σ28 110 162 (6) := by rw [eσ28]; exact CD_st (by with_reducible assumption) (by decide +kernel)
          try have hC9 : CD σ0 σ28 110 162 (x1.toInt) := by rw [eσ28]; exact CD_st (by with_reducible assumption) (by decide +kernel)
          try have hD9 : CD σ0 σ28 110 162 (x1.toInt + 1) := by rw [eσ28]; first | exact CD_st (by with_reducible assumption) (by decide +kernel) | exact CD_step (c := 162) (by with_reducible assumption) (by with_reducible assumption) (by omega) (by omega)
          refine ⟨hv_5, ?_⟩
          refine ⟨hv_5, ?_⟩
          intro σ31 eσ31
          replace H := f_l eσ31 H
          have mσ31 : MI σ31 := by rw [eσ31]; exact MIs_au (a := 144) mσ28 rfl rfl
          have fσ31 : Fr [74, 103, 104, 105, 106, 107, 108, 109, 110, 142, 143, 144, 147, 148] [0, 1, 2, 12, 41, 45, 46] σ0 σ31 := by rw [eσ31]; exact Fr_si fσ28 (by decide +kernel) (fun h9 => absurd h9 (by decide +kernel))
          have k_136 : (gi σ31 74 0).toInt = (gi σ28 74 0).toInt := gk_l eσ31 rfl
          have k_137 : (gi σ31 74 1).toInt = (gi σ28 74 1).toInt := gk_l eσ31 rfl
          have k_138 : (gi σ31 74 11).toInt = (gi σ28 74 11).toInt := gk_l eσ31 rfl
          have k_139 : (gi σ31 74 12).toInt = (gi σ28 74 12).toInt := gk_l eσ31 rfl
          have k_140 : (gi σ31 74 41).toInt = (gi σ28 74 41).toInt := gk_l eσ31 rfl
          have k_141 : (gi σ31 74 45).toInt = (gi σ28 74 45).toInt := gk_l eσ31 rfl
          have k_142 : (gi σ31 74 46).toInt = (gi σ28 74 46).toInt := gk_l eσ31 rfl
          have k_143 : (gi σ31 74 49).toInt = (gi σ28 74 49).toInt := gk_l eσ31 rfl
          have k_144 : (gi σ31 74 50).toInt = (gi σ28 74 50).toInt := gk_l eσ31 rfl
          have k_145 : (gi σ31 74 51).toInt = (gi σ28 74 51).toInt := gk_l eσ31 rfl
          have k_146 : (gi σ31 74 52).toInt = (gi σ28 74 52).toInt := gk_l eσ31 rfl
          have k_147 : (gi σ31 74 53).toInt = (gi σ28 74 53).toInt := gk_l eσ31 rfl
          have k_148 : (gi σ31 74 54).toInt = (gi σ28 74 54).toInt := gk_l eσ31 rfl
          have k_149 : (gi σ31 74 55).toInt = (gi σ28 74 55).toInt := gk_l eσ31 rfl
          try have hC9 : CD σ0 σ31 162 162 (6) := by rw [eσ31]; exact CD_st (by with_reducible assumption) (by decide +kernel)
          try have hC9 : CD σ0 σ31 110 162 (6) := by rw [eσ31]; exact CD_st (by with_reducible assumption) (by decide +kernel)
          try have hC9 : CD σ0 σ31 110 162 (x1.toInt) := by rw [eσ31]; exact CD_st (by with_reducible assumption) (by decide +kernel)
          try have hD9 : CD σ0 σ31 110 162 (x1.toInt + 1) := by rw [eσ31]; first | exact CD_st (by with_reducible assumption) (by decide +kernel) | exact CD_step (c := 162) (by with_reducible assumption) (by with_reducible assumption) (by omega) (by omega)
          intro v32 ev32
          replace H := f_l ev32 H
          have t_150 : (x1 + (1 : Int32)).toInt = x1.toInt + 1 := i_add (x := x1) (y := (1 : Int32)) (by show (_ : Int) ≤ x1.toInt + 1; omega) (by show x1.toInt + 1 ≤ (_ : Int); omega)
          have t_151 : v32.toInt = (x1 + (1 : Int32)).toInt := congrArg Int32.toInt ev32
          exact ih68 v32 σ31 mσ31 fσ31 (by omega) (by omega) (by first | with_reducible assumption | with_reducible rfl | omega | assumption | rfl) (by first | with_reducible assumption | with_reducible rfl | omega | assumption | rfl) (by first | with_reducible assumption | with_reducible rfl | omega | assumption | rfl) (by first | with_reducible assumption | with_reducible rfl | omega | assumption | rfl) (by with_reducible assumption) (by first | exact CD_0 (Int.le_refl 0) | (rw [show v32.toInt = x1.toInt + 1 from by omega]; assumption)) (by first | with_reducible assumption | with_reducible rfl | omega | assumption | rfl) (by first | with_reducible assumption | with_reducible rfl | omega | assumption | rfl) (by first | with_reducible assumption | with_reducible rfl | omega | assumption | rfl) (by first | with_reducible assumption | with_reducible rfl | omega | assumption | rfl) (by first | with_reducible assumption | with_reducible rfl | omega | assumption | rfl) (by first | with_reducible assumption | with_reducible rfl | omega | assumption | rfl) H (by omega)
      · intro x1 σ mσ fσ lx1 ux1 i0 i1 i2 i3 i4 i5 i6 i7 i8 i9 i10 H hmu
        replace H : LB_X12_undo_202 (LF_X12_undo n) x1 σ = R9 := H
        unfold LB_X12_undo_202 at H
        refine s_X12_undo_202 C hN ?_
        refine ⟨?_, ?_⟩
        · intro q_152
          replace H := f_t q_152 H
          have b_153 : (24 : Int) ≤ x1.toInt := Int32.le_iff_toInt_le.mp q_152
          have z_154 : (0 : Int32).toInt = 0 := rfl
          exact ih228 (0 : Int32) σ mσ fσ (by omega) (by omega) (by first | with_reducible assumption | with_reducible rfl | omega | assumption | rfl) (by first | with_reducible assumption | with_reducible rfl | omega | assumption | rfl) (by first | with_reducible assumption | with_reducible rfl | omega | assumption | rfl) (by first | with_reducible assumption | with_reducible rfl | omega | assumption | rfl) (by first | assumption | exact CD_le (by with_reducible assumption) (by omega)) (by first | with_reducible assumption | with_reducible rfl | omega | assumption | rfl) (by first | with_reducible assumption | with_reducible rfl | omega | assumption | rfl) (by first | with_reducible assumption | with_reducible rfl | omega | assumption | rfl) (by first | with_reducible assumption | with_reducible rfl | omega | assumption | rfl) (by first | with_reducible assumption | with_reducible rfl | omega | assumption | rfl) (by first | with_reducible assumption | with_reducible rfl | omega | assumption | rfl) H (by omega)
        · intro q_152
          replace H := f_f q_152 H
          have b_155 : ¬ (24 : Int) ≤ x1.toInt := fun h9 => q_152 (Int32.le_iff_toInt_le.mpr h9)
          have hv_156 : vp_in x1 24 := vp_in_iff.mpr ⟨by omega, by omega⟩
          refine ⟨hv_156, ?_⟩
          refine ⟨hv_156, ?_⟩
          intro σ4 eσ4
          replace H := f_l eσ4 H
          have mσ4 : MI σ4 := by rw [eσ4]; exact MIs_au (a := 109) mσ rfl rfl
          have fσ4 : Fr [74, 103, 104, 105, 106, 107, 108, 109, 110, 142, 143, 144, 147, 148] [0, 1, 2, 12, 41, 45, 46] σ0 σ4 := by rw [eσ4]; exact Fr_si fσ (by decide +kernel) (fun h9 => absurd h9 (by decide +kernel))
          have k_157 : (gi σ4 74 0).toInt = (gi σ 74 0).toInt := gk_l eσ4 rfl
          have k_158 : (gi σ4 74 1).toInt = (gi σ 74 1).toInt := gk_l eσ4 rfl
          have k_159 : (gi σ4 74 11).toInt = (gi σ 74 11).toInt := gk_l eσ4 rfl
          have k_160 : (gi σ4 74 12).toInt = (gi σ 74 12).toInt := gk_l eσ4 rfl
          have k_161 : (gi σ4 74 41).toInt = (gi σ 74 41).toInt := gk_l eσ4 rfl
          have k_162 : (gi σ4 74 45).toInt = (gi σ 74 45).toInt := gk_l eσ4 rfl
          have k_163 : (gi σ4 74 46).toInt = (gi σ 74 46).toInt := gk_l eσ4 rfl
          have k_164 : (gi σ4 74 49).toInt = (gi σ 74 49).toInt := gk_l eσ4 rfl
          have k_165 : (gi σ4 74 50).toInt = (gi σ 74 50).toInt := gk_l eσ4 rfl
          have k_166 : (gi σ4 74 51).toInt = (gi σ 74 51).toInt := gk_l eσ4 rfl
          have k_167 : (gi σ4 74 52).toInt = (gi σ 74 52).toInt := gk_l eσ4 rfl
          have k_168 : (gi σ4 74 53).toInt = (gi σ 74 53).toInt := gk_l eσ4 rfl
          have k_169 : (gi σ4 74 54).toInt = (gi σ 74 54).toInt := gk_l eσ4 rfl
          have k_170 : (gi σ4 74 55).toInt = (gi σ 74 55).toInt := gk_l eσ4 rfl
          try have hC9 : CD σ0 σ4 162 162 (6) := by rw [eσ4]; exact CD_st (by with_reducible assumption) (by decide +kernel)
          try have hC9 : CD σ0 σ4 110 162 (6) := by rw [eσ4]; exact CD_st (by with_reducible assumption) (by decide +kernel)
          try have hC9 : CD σ0 σ4 110 162 (x1.toInt) := by rw [eσ4]; exact CD_st (by with_reducible assumption) (by decide +kernel)
          try have hD9 : CD σ0 σ4 110 162 (x1.toInt + 1) := by rw [eσ4]; first | exact CD_st (by with_reducible assumption) (by decide +kernel) | exact CD_step (c := 162) (by with_reducible assumption) (by with_reducible assumption) (by omega) (by omega)
          intro v5 ev5
          replace H := f_l ev5 H
          have t_171 : (x1 + (1 : Int32)).toInt = x1.toInt + 1 := i_add (x := x1) (y := (1 : Int32)) (by show (_ : Int) ≤ x1.toInt + 1; omega) (by show x1.toInt + 1 ≤ (_ : Int); omega)
          have t_172 : v5.toInt = (x1 + (1 : Int32)).toInt := congrArg Int32.toInt ev5
          exact ih202 v5 σ4 mσ4 fσ4 (by omega) (by omega) (by first | with_reducible assumption | with_reducible rfl | omega | assumption | rfl) (by first | with_reducible assumption | with_reducible rfl | omega | assumption | rfl) (by first | with_reducible assumption | with_reducible rfl | omega | assumption | rfl) (by first | with_reducible assumption | with_reducible rfl | omega | assumption | rfl) (by first | assumption | exact CD_le (by with_reducible assumption) (by omega)) (by first | with_reducible assumption | with_reducible rfl | omega | assumption | rfl) (by first | with_reducible assumption | with_reducible rfl | omega | assumption | rfl) (by first | with_reducible assumption | with_reducible rfl | omega | assumption | rfl) (by first | with_reducible assumption | with_reducible rfl | omega | assumption | rfl) (by first | with_reducible assumption | with_reducible rfl | omega | assumption | rfl) (by first | with_reducible assumption | with_reducible rfl | omega | assumption | rfl) H (by omega)
      · intro x1 σ mσ fσ lx1 ux1 i0 i1 i2 i3 i4 i5 i6 i7 i8 i9 i10 H hmu
        replace H : LB_X12_undo_228 (LF_X12_undo n) x1 σ = R9 := H
        unfold LB_X12_undo_228 at H
        refine s_X12_undo_228 C hN ?_
        refine ⟨?_, ?_⟩
        · intro q_173
          replace H := f_t q_173 H
          have b_174 : (10 : Int) ≤ x1.toInt := Int32.le_iff_toInt_le.mp q_173
          have z_175 : (0 : Int32).toInt = 0 := rfl
          exact ih254 (0 : Int32) σ mσ fσ (by omega) (by omega) (by first | with_reducible assumption | with_reducible rfl | omega | assumption | rfl) (by first | with_reducible assumption | with_reducible rfl | omega | assumption | rfl) (by first | with_reducible assumption | with_reducible rfl | omega | assumption | rfl) (by first | with_reducible assumption | with_reducible rfl | omega | assumption | rfl) (by first | assumption | exact CD_le (by with_reducible assumption) (by omega)) (by first | with_reducible assumption | with_reducible rfl | omega | assumption | rfl) (by first | with_reducible assumption | with_reducible rfl | omega | assumption | rfl) (by first | with_reducible assumption | with_reducible rfl | omega | assumption | rfl) (by first | with_reducible assumption | with_reducible rfl | omega | assumption | rfl) (by first | with_reducible assumption | with_reducible rfl | omega | assumption | rfl) (by first | with_reducible assumption | with_reducible rfl | omega | assumption | rfl) H (by omega)
        · intro q_173
          replace H := f_f q_173 H
          have b_176 : ¬ (10 : Int) ≤ x1.toInt := fun h9 => q_173 (Int32.le_iff_toInt_le.mpr h9)
          have hv_177 : vp_in x1 10 := vp_in_iff.mpr ⟨by omega, by omega⟩
          refine ⟨hv_177, ?_⟩
          refine ⟨hv_177, ?_⟩
          intro σ4 eσ4
          replace H := f_l eσ4 H
          have mσ4 : MI σ4 := by rw [eσ4]; exact MIs_au (a := 147) mσ rfl rfl
          have fσ4 : Fr [74, 103, 104, 105, 106, 107, 108, 109, 110, 142, 143, 144, 147, 148] [0, 1, 2, 12, 41, 45, 46] σ0 σ4 := by rw [eσ4]; exact Fr_si fσ (by decide +kernel) (fun h9 => absurd h9 (by decide +kernel))
          have k_178 : (gi σ4 74 0).toInt = (gi σ 74 0).toInt := gk_l eσ4 rfl
          have k_179 : (gi σ4 74 1).toInt = (gi σ 74 1).toInt := gk_l eσ4 rfl
          have k_180 : (gi σ4 74 11).toInt = (gi σ 74 11).toInt := gk_l eσ4 rfl
          have k_181 : (gi σ4 74 12).toInt = (gi σ 74 12).toInt := gk_l eσ4 rfl
          have k_182 : (gi σ4 74 41).toInt = (gi σ 74 41).toInt := gk_l eσ4 rfl
          have k_183 : (gi σ4 74 45).toInt = (gi σ 74 45).toInt := gk_l eσ4 rfl
          have k_184 : (gi σ4 74 46).toInt = (gi σ 74 46).toInt := gk_l eσ4 rfl
          have k_185 : (gi σ4 74 49).toInt = (gi σ 74 49).toInt := gk_l eσ4 rfl
          have k_186 : (gi σ4 74 50).toInt = (gi σ 74 50).toInt := gk_l eσ4 rfl
          have k_187 : (gi σ4 74 51).toInt = (gi σ 74 51).toInt := gk_l eσ4 rfl
          have k_188 : (gi σ4 74 52).toInt = (gi σ 74 52).toInt := gk_l eσ4 rfl
          have k_189 : (gi σ4 74 53).toInt = (gi σ 74 53).toInt := gk_l eσ4 rfl
          have k_190 : (gi σ4 74 54).toInt = (gi σ 74 54).toInt := gk_l eσ4 rfl
          have k_191 : (gi σ4 74 55).toInt = (gi σ 74 55).toInt := gk_l eσ4 rfl
          try have hC9 : CD σ0 σ4 162 162 (6) := by rw [eσ4]; exact CD_st (by with_reducible assumption) (by decide +kernel)
          try have hC9 : CD σ0 σ4 110 162 (6) := by rw [eσ4]; exact CD_st (by with_reducible assumption) (by decide +kernel)
          try have hC9 : CD σ0 σ4 110 162 (x1.toInt) := by rw [eσ4]; exact CD_st (by with_reducible assumption) (by decide +kernel)
          try have hD9 : CD σ0 σ4 110 162 (x1.toInt + 1) := by rw [eσ4]; first | exact CD_st (by with_reducible assumption) (by decide +kernel) | exact CD_step (c := 162) (by with_reducible assumption) (by with_reducible assumption) (by omega) (by omega)
          intro v5 ev5
          replace H := f_l ev5 H
          have t_192 : (x1 + (1 : Int32)).toInt = x1.toInt + 1 := i_add (x := x1) (y := (1 : Int32)) (by show (_ : Int) ≤ x1.toInt + 1; omega) (by show x1.toInt + 1 ≤ (_ : Int); omega)
          have t_193 : v5.toInt = (x1 + (1 : Int32)).toInt := congrArg Int32.toInt ev5
          exact ih228 v5 σ4 mσ4 fσ4 (by omega) (by omega) (by first | with_reducible assumption | with_reducible rfl | omega | assumption | rfl) (by first | with_reducible assumption | with_reducible rfl | omega | assumption | rfl) (by first | with_reducible assumption | with_reducible rfl | omega | assumption | rfl) (by first | with_reducible assumption | with_reducible rfl | omega | assumption | rfl) (by first | assumption | exact CD_le (by with_reducible assumption) (by omega)) (by first | with_reducible assumption | with_reducible rfl | omega | assumption | rfl) (by first | with_reducible assumption | with_reducible rfl | omega | assumption | rfl) (by first | with_reducible assumption | with_reducible rfl | omega | assumption | rfl) (by first | with_reducible assumption | with_reducible rfl | omega | assumption | rfl) (by first | with_reducible assumption | with_reducible rfl | omega | assumption | rfl) (by first | with_reducible assumption | with_reducible rfl | omega | assumption | rfl) H (by omega)
      · intro x1 σ mσ fσ lx1 ux1 i0 i1 i2 i3 i4 i5 i6 i7 i8 i9 i10 H hmu
        replace H : LB_X12_undo_254 (LF_X12_undo n) x1 σ = R9 := H
        unfold LB_X12_undo_254 at H
        refine s_X12_undo_254 C hN ?_
        refine ⟨?_, ?_⟩
        · intro q_194
          replace H := f_t q_194 H
          have b_195 : (8 : Int) ≤ x1.toInt := Int32.le_iff_toInt_le.mp q_194
          have t_196 := MI_f0 mσ
          exact h9ret (gi σ 74 0) σ mσ fσ (by first | assumption | exact PL_un m0 pre1 (by with_reducible assumption) (by omega)) (by first | with_reducible assumption | with_reducible rfl | omega | assumption | rfl) (by first | with_reducible assumption | with_reducible rfl | omega | assumption | rfl) (by first | with_reducible assumption | with_reducible rfl | omega | assumption | rfl) (H0.trans H.symm)
        · intro q_194
          replace H := f_f q_194 H
          have b_197 : ¬ (8 : Int) ≤ x1.toInt := fun h9 => q_194 (Int32.le_iff_toInt_le.mpr h9)
          have hv_198 : vp_in x1 8 := vp_in_iff.mpr ⟨by omega, by omega⟩
          refine ⟨hv_198, ?_⟩
          refine ⟨hv_198, ?_⟩
          intro σ4 eσ4
          replace H := f_l eσ4 H
          have mσ4 : MI σ4 := by rw [eσ4]; exact MIs_au (a := 148) mσ rfl rfl
          have fσ4 : Fr [74, 103, 104, 105, 106, 107, 108, 109, 110, 142, 143, 144, 147, 148] [0, 1, 2, 12, 41, 45, 46] σ0 σ4 := by rw [eσ4]; exact Fr_si fσ (by decide +kernel) (fun h9 => absurd h9 (by decide +kernel))
          have k_199 : (gi σ4 74 0).toInt = (gi σ 74 0).toInt := gk_l eσ4 rfl
          have k_200 : (gi σ4 74 1).toInt = (gi σ 74 1).toInt := gk_l eσ4 rfl
          have k_201 : (gi σ4 74 11).toInt = (gi σ 74 11).toInt := gk_l eσ4 rfl
          have k_202 : (gi σ4 74 12).toInt = (gi σ 74 12).toInt := gk_l eσ4 rfl
          have k_203 : (gi σ4 74 41).toInt = (gi σ 74 41).toInt := gk_l eσ4 rfl
          have k_204 : (gi σ4 74 45).toInt = (gi σ 74 45).toInt := gk_l eσ4 rfl
          have k_205 : (gi σ4 74 46).toInt = (gi σ 74 46).toInt := gk_l eσ4 rfl
          have k_206 : (gi σ4 74 49).toInt = (gi σ 74 49).toInt := gk_l eσ4 rfl
          have k_207 : (gi σ4 74 50).toInt = (gi σ 74 50).toInt := gk_l eσ4 rfl
          have k_208 : (gi σ4 74 51).toInt = (gi σ 74 51).toInt := gk_l eσ4 rfl
          have k_209 : (gi σ4 74 52).toInt = (gi σ 74 52).toInt := gk_l eσ4 rfl
          have k_210 : (gi σ4 74 53).toInt = (gi σ 74 53).toInt := gk_l eσ4 rfl
          have k_211 : (gi σ4 74 54).toInt = (gi σ 74 54).toInt := gk_l eσ4 rfl
          have k_212 : (gi σ4 74 55).toInt = (gi σ 74 55).toInt := gk_l eσ4 rfl
          try have hC9 : CD σ0 σ4 162 162 (6) := by rw [eσ4]; exact CD_st (by with_reducible assumption) (by decide +kernel)
          try have hC9 : CD σ0 σ4 110 162 (6) := by rw [eσ4]; exact CD_st (by with_reducible assumption) (by decide +kernel)
          try have hC9 : CD σ0 σ4 110 162 (x1.toInt) := by rw [eσ4]; exact CD_st (by with_reducible assumption) (by decide +kernel)
          try have hD9 : CD σ0 σ4 110 162 (x1.toInt + 1) := by rw [eσ4]; first | exact CD_st (by with_reducible assumption) (by decide +kernel) | exact CD_step (c := 162) (by with_reducible assumption) (by with_reducible assumption) (by omega) (by omega)
          intro v5 ev5
          replace H := f_l ev5 H
          have t_213 : (x1 + (1 : Int32)).toInt = x1.toInt + 1 := i_add (x := x1) (y := (1 : Int32)) (by show (_ : Int) ≤ x1.toInt + 1; omega) (by show x1.toInt + 1 ≤ (_ : Int); omega)
          have t_214 : v5.toInt = (x1 + (1 : Int32)).toInt := congrArg Int32.toInt ev5
          exact ih254 v5 σ4 mσ4 fσ4 (by omega) (by omega) (by first | with_reducible assumption | with_reducible rfl | omega | assumption | rfl) (by first | with_reducible assumption | with_reducible rfl | omega | assumption | rfl) (by first | with_reducible assumption | with_reducible rfl | omega | assumption | rfl) (by first | with_reducible assumption | with_reducible rfl | omega | assumption | rfl) (by first | assumption | exact CD_le (by with_reducible assumption) (by omega)) (by first | with_reducible assumption | with_reducible rfl | omega | assumption | rfl) (by first | with_reducible assumption | with_reducible rfl | omega | assumption | rfl) (by first | with_reducible assumption | with_reducible rfl | omega | assumption | rfl) (by first | with_reducible assumption | with_reducible rfl | omega | assumption | rfl) (by first | with_reducible assumption | with_reducible rfl | omega | assumption | rfl) (by first | with_reducible assumption | with_reducible rfl | omega | assumption | rfl) H (by omega)
  obtain ⟨U68, U202, U228, U254⟩ := T 900
  have f0 : Fr [74, 103, 104, 105, 106, 107, 108, 109, 110, 142, 143, 144, 147, 148] [0, 1, 2, 12, 41, 45, 46] σ0 σ0 := Fr_rf
  have hA9 : CD σ0 σ0 162 162 6 := CD_rf
  have H := H0
  unfold F_X12_undo at H
  refine s_X12_undo_0 C hN ?_
  refine ⟨?_, ?_⟩
  · intro q_215
    replace H := f_f q_215 H
    have b_216 : ¬ (gi σ0 74 49).toInt = 0 := fun h9 => q_215 (Int32.toInt_inj.mp h9)
    intro σ2 eσ2
    replace H := f_l eσ2 H
    have t_217 := MI_f50 m0
    have mσ2 : MI σ2 := by rw [eσ2]; exact MIs_f12 m0 (by omega) (by omega) (FV_copy m0.2.2 (Or.inl rfl) (Or.inr rfl))
    have fσ2 : Fr [74, 103, 104, 105, 106, 107, 108, 109, 110, 142, 143, 144, 147, 148] [0, 1, 2, 12, 41, 45, 46] σ0 σ2 := by rw [eσ2]; exact Fr_si f0 (by decide +kernel) (fun _ => by decide +kernel)
    have k_218 : (gi σ2 74 0).toInt = (gi σ0 74 0).toInt := gk_r eσ2 rfl
    have k_219 : (gi σ2 74 1).toInt = (gi σ0 74 1).toInt := gk_r eσ2 rfl
    have k_220 : (gi σ2 74 11).toInt = (gi σ0 74 11).toInt := gk_r eσ2 rfl
    have k_221 : (gi σ2 74 12).toInt = (gi σ0 74 50).toInt := by rw [eσ2]; exact congrArg Int32.toInt gi_si_eq
    have k_222 : (gi σ2 74 41).toInt = (gi σ0 74 41).toInt := gk_r eσ2 rfl
    have k_223 : (gi σ2 74 45).toInt = (gi σ0 74 45).toInt := gk_r eσ2 rfl
    have k_224 : (gi σ2 74 46).toInt = (gi σ0 74 46).toInt := gk_r eσ2 rfl
    have k_225 : (gi σ2 74 49).toInt = (gi σ0 74 49).toInt := gk_r eσ2 rfl
    have k_226 : (gi σ2 74 50).toInt = (gi σ0 74 50).toInt := gk_r eσ2 rfl
    have k_227 : (gi σ2 74 51).toInt = (gi σ0 74 51).toInt := gk_r eσ2 rfl
    have k_228 : (gi σ2 74 52).toInt = (gi σ0 74 52).toInt := gk_r eσ2 rfl
    have k_229 : (gi σ2 74 53).toInt = (gi σ0 74 53).toInt := gk_r eσ2 rfl
    have k_230 : (gi σ2 74 54).toInt = (gi σ0 74 54).toInt := gk_r eσ2 rfl
    have k_231 : (gi σ2 74 55).toInt = (gi σ0 74 55).toInt := gk_r eσ2 rfl
    try have hC9 : CD σ0 σ2 162 162 (6) := by rw [eσ2]; exact CD_st (by with_reducible assumption) (by decide +kernel)
    intro σ3 eσ3
    replace H := f_l eσ3 H
    have t_232 := MI_f51 mσ2
    have mσ3 : MI σ3 := by rw [eσ3]; exact MIs_f0 mσ2 (by omega) (by omega)
    have fσ3 : Fr [74, 103, 104, 105, 106, 107, 108, 109, 110, 142, 143, 144, 147, 148] [0, 1, 2, 12, 41, 45, 46] σ0 σ3 := by rw [eσ3]; exact Fr_si fσ2 (by decide +kernel) (fun _ => by decide +kernel)
    have k_233 : (gi σ3 74 0).toInt = (gi σ2 74 51).toInt := by rw [eσ3]; exact congrArg Int32.toInt gi_si_eq
    have k_234 : (gi σ3 74 1).toInt = (gi σ2 74 1).toInt := gk_r eσ3 rfl
    have k_235 : (gi σ3 74 11).toInt = (gi σ2 74 11).toInt := gk_r eσ3 rfl
    have k_236 : (gi σ3 74 12).toInt = (gi σ2 74 12).toInt := gk_r eσ3 rfl
    have k_237 : (gi σ3 74 41).toInt = (gi σ2 74 41).toInt := gk_r eσ3 rfl
    have k_238 : (gi σ3 74 45).toInt = (gi σ2 74 45).toInt := gk_r eσ3 rfl
    have k_239 : (gi σ3 74 46).toInt = (gi σ2 74 46).toInt := gk_r eσ3 rfl
    have k_240 : (gi σ3 74 49).toInt = (gi σ2 74 49).toInt := gk_r eσ3 rfl
    have k_241 : (gi σ3 74 50).toInt = (gi σ2 74 50).toInt := gk_r eσ3 rfl
    have k_242 : (gi σ3 74 51).toInt = (gi σ2 74 51).toInt := gk_r eσ3 rfl
    have k_243 : (gi σ3 74 52).toInt = (gi σ2 74 52).toInt := gk_r eσ3 rfl
    have k_244 : (gi σ3 74 53).toInt = (gi σ2 74 53).toInt := gk_r eσ3 rfl
    have k_245 : (gi σ3 74 54).toInt = (gi σ2 74 54).toInt := gk_r eσ3 rfl
    have k_246 : (gi σ3 74 55).toInt = (gi σ2 74 55).toInt := gk_r eσ3 rfl
    try have hC9 : CD σ0 σ3 162 162 (6) := by rw [eσ3]; exact CD_st (by with_reducible assumption) (by decide +kernel)
    intro σ4 eσ4
    replace H := f_l eσ4 H
    have t_247 := MI_f51 mσ3
    have mσ4 : MI σ4 := by rw [eσ4]; exact MIs_f2 mσ3 (by omega) (by omega)
    have fσ4 : Fr [74, 103, 104, 105, 106, 107, 108, 109, 110, 142, 143, 144, 147, 148] [0, 1, 2, 12, 41, 45, 46] σ0 σ4 := by rw [eσ4]; exact Fr_si fσ3 (by decide +kernel) (fun _ => by decide +kernel)
    have k_248 : (gi σ4 74 0).toInt = (gi σ3 74 0).toInt := gk_r eσ4 rfl
    have k_249 : (gi σ4 74 1).toInt = (gi σ3 74 1).toInt := gk_r eσ4 rfl
    have k_250 : (gi σ4 74 11).toInt = (gi σ3 74 11).toInt := gk_r eσ4 rfl
    have k_251 : (gi σ4 74 12).toInt = (gi σ3 74 12).toInt := gk_r eσ4 rfl
    have k_252 : (gi σ4 74 41).toInt = (gi σ3 74 41).toInt := gk_r eσ4 rfl
    have k_253 : (gi σ4 74 45).toInt = (gi σ3 74 45).toInt := gk_r eσ4 rfl
    have k_254 : (gi σ4 74 46).toInt = (gi σ3 74 46).toInt := gk_r eσ4 rfl
    have k_255 : (gi σ4 74 49).toInt = (gi σ3 74 49).toInt := gk_r eσ4 rfl
    have k_256 : (gi σ4 74 50).toInt = (gi σ3 74 50).toInt := gk_r eσ4 rfl
    have k_257 : (gi σ4 74 51).toInt = (gi σ3 74 51).toInt := gk_r eσ4 rfl
    have k_258 : (gi σ4 74 52).toInt = (gi σ3 74 52).toInt := gk_r eσ4 rfl
    have k_259 : (gi σ4 74 53).toInt = (gi σ3 74 53).toInt := gk_r eσ4 rfl
    have k_260 : (gi σ4 74 54).toInt = (gi σ3 74 54).toInt := gk_r eσ4 rfl
    have k_261 : (gi σ4 74 55).toInt = (gi σ3 74 55).toInt := gk_r eσ4 rfl
    try have hC9 : CD σ0 σ4 162 162 (6) := by rw [eσ4]; exact CD_st (by with_reducible assumption) (by decide +kernel)
    intro σ5 eσ5
    replace H := f_l eσ5 H
    have t_262 := MI_f52 mσ4
    have mσ5 : MI σ5 := by rw [eσ5]; exact MIs_f1 mσ4 (by omega) (by omega)
    have fσ5 : Fr [74, 103, 104, 105, 106, 107, 108, 109, 110, 142, 143, 144, 147, 148] [0, 1, 2, 12, 41, 45, 46] σ0 σ5 := by rw [eσ5]; exact Fr_si fσ4 (by decide +kernel) (fun _ => by decide +kernel)
    have k_263 : (gi σ5 74 0).toInt = (gi σ4 74 0).toInt := gk_r eσ5 rfl
    have k_264 : (gi σ5 74 1).toInt = (gi σ4 74 52).toInt := by rw [eσ5]; exact congrArg Int32.toInt gi_si_eq
    have k_265 : (gi σ5 74 11).toInt = (gi σ4 74 11).toInt := gk_r eσ5 rfl
    have k_266 : (gi σ5 74 12).toInt = (gi σ4 74 12).toInt := gk_r eσ5 rfl
    have k_267 : (gi σ5 74 41).toInt = (gi σ4 74 41).toInt := gk_r eσ5 rfl
    have k_268 : (gi σ5 74 45).toInt = (gi σ4 74 45).toInt := gk_r eσ5 rfl
    have k_269 : (gi σ5 74 46).toInt = (gi σ4 74 46).toInt := gk_r eσ5 rfl
    have k_270 : (gi σ5 74 49).toInt = (gi σ4 74 49).toInt := gk_r eσ5 rfl
    have k_271 : (gi σ5 74 50).toInt = (gi σ4 74 50).toInt := gk_r eσ5 rfl
    have k_272 : (gi σ5 74 51).toInt = (gi σ4 74 51).toInt := gk_r eσ5 rfl
    have k_273 : (gi σ5 74 52).toInt = (gi σ4 74 52).toInt := gk_r eσ5 rfl
    have k_274 : (gi σ5 74 53).toInt = (gi σ4 74 53).toInt := gk_r eσ5 rfl
    have k_275 : (gi σ5 74 54).toInt = (gi σ4 74 54).toInt := gk_r eσ5 rfl
    have k_276 : (gi σ5 74 55).toInt = (gi σ4 74 55).toInt := gk_r eσ5 rfl
    try have hC9 : CD σ0 σ5 162 162 (6) := by rw [eσ5]; exact CD_st (by with_reducible assumption) (by decide +kernel)
    intro σ6 eσ6
    replace H := f_l eσ6 H
    have t_277 := MI_f53 mσ5
    have mσ6 : MI σ6 := by rw [eσ6]; exact MIs_f41 mσ5 (by omega) (by omega)
    have fσ6 : Fr [74, 103, 104, 105, 106, 107, 108, 109, 110, 142, 143, 144, 147, 148] [0, 1, 2, 12, 41, 45, 46] σ0 σ6 := by rw [eσ6]; exact Fr_si fσ5 (by decide +kernel) (fun _ => by decide +kernel)
    have k_278 : (gi σ6 74 0).toInt = (gi σ5 74 0).toInt := gk_r eσ6 rfl
    have k_279 : (gi σ6 74 1).toInt = (gi σ5 74 1).toInt := gk_r eσ6 rfl
    have k_280 : (gi σ6 74 11).toInt = (gi σ5 74 11).toInt := gk_r eσ6 rfl
    have k_281 : (gi σ6 74 12).toInt = (gi σ5 74 12).toInt := gk_r eσ6 rfl
    have k_282 : (gi σ6 74 41).toInt = (gi σ5 74 53).toInt := by rw [eσ6]; exact congrArg Int32.toInt gi_si_eq
    have k_283 : (gi σ6 74 45).toInt = (gi σ5 74 45).toInt := gk_r eσ6 rfl
    have k_284 : (gi σ6 74 46).toInt = (gi σ5 74 46).toInt := gk_r eσ6 rfl
    have k_285 : (gi σ6 74 49).toInt = (gi σ5 74 49).toInt := gk_r eσ6 rfl
    have k_286 : (gi σ6 74 50).toInt = (gi σ5 74 50).toInt := gk_r eσ6 rfl
    have k_287 : (gi σ6 74 51).toInt = (gi σ5 74 51).toInt := gk_r eσ6 rfl
    have k_288 : (gi σ6 74 52).toInt = (gi σ5 74 52).toInt := gk_r eσ6 rfl
    have k_289 : (gi σ6 74 53).toInt = (gi σ5 74 53).toInt := gk_r eσ6 rfl
    have k_290 : (gi σ6 74 54).toInt = (gi σ5 74 54).toInt := gk_r eσ6 rfl
    have k_291 : (gi σ6 74 55).toInt = (gi σ5 74 55).toInt := gk_r eσ6 rfl
    try have hC9 : CD σ0 σ6 162 162 (6) := by rw [eσ6]; exact CD_st (by with_reducible assumption) (by decide +kernel)
    intro σ7 eσ7
    replace H := f_l eσ7 H
    have t_292 := MI_f54 mσ6
    have mσ7 : MI σ7 := by rw [eσ7]; exact MIs_f45 mσ6 (by omega) (by omega)
    have fσ7 : Fr [74, 103, 104, 105, 106, 107, 108, 109, 110, 142, 143, 144, 147, 148] [0, 1, 2, 12, 41, 45, 46] σ0 σ7 := by rw [eσ7]; exact Fr_si fσ6 (by decide +kernel) (fun _ => by decide +kernel)
    have k_293 : (gi σ7 74 0).toInt = (gi σ6 74 0).toInt := gk_r eσ7 rfl
    have k_294 : (gi σ7 74 1).toInt = (gi σ6 74 1).toInt := gk_r eσ7 rfl
    have k_295 : (gi σ7 74 11).toInt = (gi σ6 74 11).toInt := gk_r eσ7 rfl
    have k_296 : (gi σ7 74 12).toInt = (gi σ6 74 12).toInt := gk_r eσ7 rfl
    have k_297 : (gi σ7 74 41).toInt = (gi σ6 74 41).toInt := gk_r eσ7 rfl
    have k_298 : (gi σ7 74 45).toInt = (gi σ6 74 54).toInt := by rw [eσ7]; exact congrArg Int32.toInt gi_si_eq
    have k_299 : (gi σ7 74 46).toInt = (gi σ6 74 46).toInt := gk_r eσ7 rfl
    have k_300 : (gi σ7 74 49).toInt = (gi σ6 74 49).toInt := gk_r eσ7 rfl
    have k_301 : (gi σ7 74 50).toInt = (gi σ6 74 50).toInt := gk_r eσ7 rfl
    have k_302 : (gi σ7 74 51).toInt = (gi σ6 74 51).toInt := gk_r eσ7 rfl
    have k_303 : (gi σ7 74 52).toInt = (gi σ6 74 52).toInt := gk_r eσ7 rfl
    have k_304 : (gi σ7 74 53).toInt = (gi σ6 74 53).toInt := gk_r eσ7 rfl
    have k_305 : (gi σ7 74 54).toInt = (gi σ6 74 54).toInt := gk_r eσ7 rfl
    have k_306 : (gi σ7 74 55).toInt = (gi σ6 74 55).toInt := gk_r eσ7 rfl
    try have hC9 : CD σ0 σ7 162 162 (6) := by rw [eσ7]; exact CD_st (by with_reducible assumption) (by decide +kernel)
    intro σ8 eσ8
    replace H := f_l eσ8 H
    have t_307 := MI_f55 mσ7
    have mσ8 : MI σ8 := by rw [eσ8]; exact MIs_f46 mσ7 (by omega) (by omega)
    have fσ8 : Fr [74, 103, 104, 105, 106, 107, 108, 109, 110, 142, 143, 144, 147, 148] [0, 1, 2, 12, 41, 45, 46] σ0 σ8 := by rw [eσ8]; exact Fr_si fσ7 (by decide +kernel) (fun _ => by decide +kernel)
    have k_308 : (gi σ8 74 0).toInt = (gi σ7 74 0).toInt := gk_r eσ8 rfl
    have k_309 : (gi σ8 74 1).toInt = (gi σ7 74 1).toInt := gk_r eσ8 rfl
    have k_310 : (gi σ8 74 11).toInt = (gi σ7 74 11).toInt := gk_r eσ8 rfl
    have k_311 : (gi σ8 74 12).toInt = (gi σ7 74 12).toInt := gk_r eσ8 rfl
    have k_312 : (gi σ8 74 41).toInt = (gi σ7 74 41).toInt := gk_r eσ8 rfl
    have k_313 : (gi σ8 74 45).toInt = (gi σ7 74 45).toInt := gk_r eσ8 rfl
    have k_314 : (gi σ8 74 46).toInt = (gi σ7 74 55).toInt := by rw [eσ8]; exact congrArg Int32.toInt gi_si_eq
    have k_315 : (gi σ8 74 49).toInt = (gi σ7 74 49).toInt := gk_r eσ8 rfl
    have k_316 : (gi σ8 74 50).toInt = (gi σ7 74 50).toInt := gk_r eσ8 rfl
    have k_317 : (gi σ8 74 51).toInt = (gi σ7 74 51).toInt := gk_r eσ8 rfl
    have k_318 : (gi σ8 74 52).toInt = (gi σ7 74 52).toInt := gk_r eσ8 rfl
    have k_319 : (gi σ8 74 53).toInt = (gi σ7 74 53).toInt := gk_r eσ8 rfl
    have k_320 : (gi σ8 74 54).toInt = (gi σ7 74 54).toInt := gk_r eσ8 rfl
    have k_321 : (gi σ8 74 55).toInt = (gi σ7 74 55).toInt := gk_r eσ8 rfl
    try have hC9 : CD σ0 σ8 162 162 (6) := by rw [eσ8]; exact CD_st (by with_reducible assumption) (by decide +kernel)
    have z_322 : (0 : Int32).toInt = 0 := rfl
    exact U68 (0 : Int32) σ8 mσ8 fσ8 (by omega) (by omega) (by first | with_reducible assumption | with_reducible rfl | omega | assumption | rfl) (by first | with_reducible assumption | with_reducible rfl | omega | assumption | rfl) (by first | with_reducible assumption | with_reducible rfl | omega | assumption | rfl) (by first | with_reducible assumption | with_reducible rfl | omega | assumption | rfl) (by with_reducible assumption) (by first | exact CD_0 (Int.le_refl 0) | (rw [show v32.toInt = x1.toInt + 1 from by omega]; assumption)) (by first | with_reducible assumption | with_reducible rfl | omega | assumption | rfl) (by first | with_reducible assumption | with_reducible rfl | omega | assumption | rfl) (by first | with_reducible assumption | with_reducible rfl | omega | assumption | rfl) (by first | with_reducible assumption | with_reducible rfl | omega | assumption | rfl) (by first | with_reducible assumption | with_reducible rfl | omega | assumption | rfl) (by first | with_reducible assumption | with_reducible rfl | omega | assumption | rfl) H (by omega)
  · intro q_215
    replace H := f_t q_215 H
    have b_323 : (gi σ0 74 49).toInt = 0 := congrArg Int32.toInt q_215
    have z_324 : (-3 : Int32).toInt = -3 := rfl
    exact h9ret (-3 : Int32) σ0 m0 f0 (by first | assumption | exact PL_un m0 pre1 (by with_reducible assumption) (by omega)) (by first | with_reducible assumption | with_reducible rfl | omega | assumption | rfl) (by first | with_reducible assumption | with_reducible rfl | omega | assumption | rfl) (by first | with_reducible assumption | with_reducible rfl | omega | assumption | rfl) (H0.trans H.symm)
noncomputable def LB_X12_mower_115 (rec : Int32 → Sg → Int32 × Sg) (x3 : Int32) (σ : Sg) : Int32 × Sg := (if (4 : Int32) ≤ x3 then fl (si σ 74 0 ((gi σ 74 0) + (1 : Int32))) (fun σ2 => fl (si σ2 74 2 (gi σ2 74 0)) (fun σ3 => ((gi σ3 74 0) - (1 : Int32), σ3))) else fl (si σ 109 (((4 : Int32) * (gi σ 74 0)) + x3).toNatClampNeg (0 : Int32)) (fun σ5 => fl (x3 + 1) (fun v6 => rec v6 σ5)))
noncomputable def LF_X12_mower : Nat → Int32 → Sg → Int32 × Sg
  | 0, _, σ => (0, σ)
  | n + 1, x3, σ => LB_X12_mower_115 (LF_X12_mower n) x3 σ
noncomputable def F_X12_mower (a1 : Int32) (a2 : Int32) (σ : Sg) : Int32 × Sg := fb (F_X12_in a1 (0 : Int32) (6 : Int32) σ) (fun r2 σ1 => (if r2 = 0 then ((-1 : Int32), σ1) else fb (F_X12_in a2 (0 : Int32) (9 : Int32) σ1) (fun r5 σ4 => (if r5 = 0 then ((-2 : Int32), σ4) else (if (gi σ4 74 0) = (6 : Int32) then ((-4 : Int32), σ4) else fl (si σ4 103 (gi σ4 74 0).toNatClampNeg a1) (fun σ9 => fl (si σ9 104 (gi σ9 74 0).toNatClampNeg a2) (fun σ11 => fl (si σ11 105 (gi σ11 74 0).toNatClampNeg (0 : Int32)) (fun σ13 => fl (si σ13 106 (gi σ13 74 0).toNatClampNeg (10 : Int32)) (fun σ15 => fl (si σ15 107 (gi σ15 74 0).toNatClampNeg (0 : Int32)) (fun σ17 => fl (si σ17 108 (gi σ17 74 0).toNatClampNeg (0 : Int32)) (fun σ19 => fl (si σ19 110 (gi σ19 74 0).toNatClampNeg (gi σ19 74 0)) (fun σ21 => LF_X12_mower 20 (0 : Int32) σ21))))))))))))
set_option maxRecDepth 100000 in
set_option maxHeartbeats 4000000 in
theorem kF_X12_mower {l : Launch} {V : Vx} {a1 : Int32} {a2 : Int32} {σ0 : Sg} {Qk : Int32 → Sg → Prop} (m0 : MI σ0) (pre0 : PL σ0) (h9ret : ∀ (r : Int32) (σ' : Sg), MI σ' → Fr [74, 103, 104, 105, 106, 107, 108, 109, 110] [0, 2] σ0 σ' → (PL σ') → (((gi σ' 74 0).toInt = (gi σ0 74 0).toInt ∨ (gi σ' 74 0).toInt = (gi σ0 74 0).toInt + 1)) → (((a1.toInt < 0 ∨ 6 < a1.toInt) → r.toInt = -1 ∧ (gi σ' 74 0).toInt = (gi σ0 74 0).toInt) ∧ (0 ≤ a1.toInt → a1.toInt ≤ 6 → ((a2.toInt < 0 ∨ 9 < a2.toInt) → r.toInt = -2 ∧ (gi σ' 74 0).toInt = (gi σ0 74 0).toInt) ∧ (0 ≤ a2.toInt → a2.toInt ≤ 9 → (6 ≤ (gi σ0 74 0).toInt → r.toInt = -4 ∧ (gi σ' 74 0).toInt = (gi σ0 74 0).toInt) ∧ ((gi σ0 74 0).toInt < 6 → r.toInt = (gi σ0 74 0).toInt ∧ (gi σ' 74 0).toInt = (gi σ0 74 0).toInt + 1)))) → (F_X12_mower a1 a2 σ0 = (r, σ')) → Qk r σ') : K_X12_mower l V a1 a2 σ0 Qk := by
  refine e_X12_mower (fun M hl hV hN C => ?_)
  subst hl
  subst hV
  obtain ⟨R9, H0⟩ : ∃ R9, F_X12_mower a1 a2 σ0 = R9 := ⟨_, rfl⟩
  have T : ∀ n : Nat, (∀ (x3 : Int32) (σ : Sg), MI σ → Fr [74, 103, 104, 105, 106, 107, 108, 109, 110] [0, 2] σ0 σ → (0 ≤ x3.toInt) → (x3.toInt ≤ 4) → ((gi σ 74 0).toInt = (gi σ0 74 0).toInt) → ((gi σ0 74 0).toInt ≤ 5) → (PLx σ ((gi σ 74 0).toInt + 1)) → (0 ≤ a1.toInt) → (a1.toInt ≤ 6) → (0 ≤ a2.toInt) → (a2.toInt ≤ 9) → (LF_X12_mower n x3 σ = R9) → (5 - x3.toInt).toNat < n → PS M 115 [(0, .ref 74), (3, .int x3)] [] σ (0, 0)) := by
    intro n
    induction n with
    | zero => exact fun _ _ _ _ _ _ _ _ _ _ _ _ _ _ h8 => absurd h8 (Nat.not_lt_zero _)
    | succ n ih =>
      have ih115 := ih
      · intro x3 σ mσ fσ lx3 ux3 i0 i1 i2 i3 i4 i5 i6 H hmu
        replace H : LB_X12_mower_115 (LF_X12_mower n) x3 σ = R9 := H
        unfold LB_X12_mower_115 at H
        refine s_X12_mower_115 C hN ?_
        refine ⟨?_, ?_⟩
        · intro q_1
          replace H := f_t q_1 H
          have b_2 : (4 : Int) ≤ x3.toInt := Int32.le_iff_toInt_le.mp q_1
          intro σ2 eσ2
          replace H := f_l eσ2 H
          have t_3 := MI_f0 mσ
          have t_4 : ((gi σ 74 0) + (1 : Int32)).toInt = (gi σ 74 0).toInt + 1 := i_add (x := (gi σ 74 0)) (y := (1 : Int32)) (by show (_ : Int) ≤ (gi σ 74 0).toInt + 1; omega) (by show (gi σ 74 0).toInt + 1 ≤ (_ : Int); omega)
          have mσ2 : MI σ2 := by rw [eσ2]; exact MIs_f0 mσ (by omega) (by omega)
          have fσ2 : Fr [74, 103, 104, 105, 106, 107, 108, 109, 110] [0, 2] σ0 σ2 := by rw [eσ2]; exact Fr_si fσ (by decide +kernel) (fun _ => by decide +kernel)
          have k_5 : (gi σ2 74 0).toInt = ((gi σ 74 0) + (1 : Int32)).toInt := by rw [eσ2]; exact congrArg Int32.toInt gi_si_eq
          intro σ3 eσ3
          replace H := f_l eσ3 H
          have t_6 := MI_f0 mσ2
          have mσ3 : MI σ3 := by rw [eσ3]; exact MIs_f2 mσ2 (by omega) (by omega)
          have fσ3 : Fr [74, 103, 104, 105, 106, 107, 108, 109, 110] [0, 2] σ0 σ3 := by rw [eσ3]; exact Fr_si fσ2 (by decide +kernel) (fun _ => by decide +kernel)
          have k_7 : (gi σ3 74 0).toInt = (gi σ2 74 0).toInt := gk_r eσ3 rfl
          have t_8 := MI_f0 mσ3
          have t_9 : ((gi σ3 74 0) - (1 : Int32)).toInt = (gi σ3 74 0).toInt - 1 := i_sub (x := (gi σ3 74 0)) (y := (1 : Int32)) (by show (_ : Int) ≤ (gi σ3 74 0).toInt - 1; omega) (by show (gi σ3 74 0).toInt - 1 ≤ (_ : Int); omega)
          exact h9ret ((gi σ3 74 0) - (1 : Int32)) σ3 mσ3 fσ3 (by first | assumption | (show PLx σ3 (gi σ3 74 0).toInt; rw [show (gi σ3 74 0).toInt = (gi σ 74 0).toInt + 1 from by omega, eσ3, eσ2]; exact PLx_st (PLx_st i2 (by decide +kernel)) (by decide +kernel))) (by first | with_reducible assumption | with_reducible rfl | omega | assumption | rfl) (by first | with_reducible assumption | with_reducible rfl | omega | assumption | rfl) (H0.trans H.symm)
        · intro q_1
          replace H := f_f q_1 H
          have b_10 : ¬ (4 : Int) ≤ x3.toInt := fun h9 => q_1 (Int32.le_iff_toInt_le.mpr h9)
          have t_11 := MI_f0 mσ
          have t_12 : ((4 : Int32) * (gi σ 74 0)).toInt = 4 * (gi σ 74 0).toInt := i_mull rfl (by omega) (by omega)
          have t_13 : (((4 : Int32) * (gi σ 74 0)) + x3).toInt = ((4 : Int32) * (gi σ 74 0)).toInt + x3.toInt := i_add (x := ((4 : Int32) * (gi σ 74 0))) (y := x3) (by show (_ : Int) ≤ ((4 : Int32) * (gi σ 74 0)).toInt + x3.toInt; omega) (by show ((4 : Int32) * (gi σ 74 0)).toInt + x3.toInt ≤ (_ : Int); omega)
          have hv_14 : vp_in (((4 : Int32) * (gi σ 74 0)) + x3) 24 := vp_in_iff.mpr ⟨by omega, by omega⟩
          refine ⟨hv_14, ?_⟩
          intro σ5 eσ5
          replace H := f_l eσ5 H
          have mσ5 : MI σ5 := by rw [eσ5]; exact MIs_au (a := 109) mσ rfl rfl
          have fσ5 : Fr [74, 103, 104, 105, 106, 107, 108, 109, 110] [0, 2] σ0 σ5 := by rw [eσ5]; exact Fr_si fσ (by decide +kernel) (fun h9 => absurd h9 (by decide +kernel))
          have k_15 : (gi σ5 74 0).toInt = (gi σ 74 0).toInt := gk_l eσ5 rfl
          intro v6 ev6
          replace H := f_l ev6 H
          have t_16 : (x3 + (1 : Int32)).toInt = x3.toInt + 1 := i_add (x := x3) (y := (1 : Int32)) (by show (_ : Int) ≤ x3.toInt + 1; omega) (by show x3.toInt + 1 ≤ (_ : Int); omega)
          have t_17 : v6.toInt = (x3 + (1 : Int32)).toInt := congrArg Int32.toInt ev6
          exact ih115 v6 σ5 mσ5 fσ5 (by omega) (by omega) (by first | with_reducible assumption | with_reducible rfl | omega | assumption | rfl) (by first | with_reducible assumption | with_reducible rfl | omega | assumption | rfl) (by first | (rw [show (gi σ21 74 0).toInt + 1 = (gi σ19 74 0).toInt + 1 from by omega, eσ21]; exact PLx_new (by with_reducible assumption) (by omega) rfl) | (rw [show (gi σ5 74 0).toInt + 1 = (gi σ 74 0).toInt + 1 from by omega, eσ5]; exact PLx_st i2 (by decide +kernel))) (by first | with_reducible assumption | with_reducible rfl | omega | assumption | rfl) (by first | with_reducible assumption | with_reducible rfl | omega | assumption | rfl) (by first | with_reducible assumption | with_reducible rfl | omega | assumption | rfl) (by first | with_reducible assumption | with_reducible rfl | omega | assumption | rfl) H (by omega)
  have U115 := T 20
  have f0 : Fr [74, 103, 104, 105, 106, 107, 108, 109, 110] [0, 2] σ0 σ0 := Fr_rf
  have H := H0
  unfold F_X12_mower at H
  refine s_X12_mower_0 C hN ?_
  refine kF_X12_in m0  (fun r2 σ1 mσ1 cσ1 plσ1 phσ1 (pσ1_0 : (r2.toInt = 1 ∧ (0 : Int) ≤ a1.toInt ∧ a1.toInt ≤ (6 : Int)) ∨ (r2.toInt = 0 ∧ (a1.toInt < (0 : Int) ∨ (6 : Int) < a1.toInt))) hσ1 => ?_)
  obtain rfl := Fr_nil cσ1
  replace H := f_b hσ1 H
  refine ⟨?_, ?_⟩
  · intro q_18
    replace H := f_f q_18 H
    have b_19 : ¬ r2.toInt = 0 := fun h9 => q_18 (Int32.toInt_inj.mp h9)
    refine kF_X12_in m0  (fun r5 σ4 mσ4 cσ4 plσ4 phσ4 (pσ4_0 : (r5.toInt = 1 ∧ (0 : Int) ≤ a2.toInt ∧ a2.toInt ≤ (9 : Int)) ∨ (r5.toInt = 0 ∧ (a2.toInt < (0 : Int) ∨ (9 : Int) < a2.toInt))) hσ4 => ?_)
    obtain rfl := Fr_nil cσ4
    replace H := f_b hσ4 H
    refine ⟨?_, ?_⟩
    · intro q_20
      replace H := f_f q_20 H
      have b_21 : ¬ r5.toInt = 0 := fun h9 => q_20 (Int32.toInt_inj.mp h9)
      refine ⟨?_, ?_⟩
      · intro q_22
        replace H := f_f q_22 H
        have t_23 := MI_f0 m0
        have b_24 : ¬ (gi σ0 74 0).toInt = 6 := fun h9 => q_22 (Int32.toInt_inj.mp h9)
        have hv_25 : vp_in (gi σ0 74 0) 6 := vp_in_iff.mpr ⟨by omega, by omega⟩
        refine ⟨hv_25, ?_⟩
        intro σ9 eσ9
        replace H := f_l eσ9 H
        have mσ9 : MI σ9 := by rw [eσ9]; exact MIs_au (a := 103) m0 rfl rfl
        have fσ9 : Fr [74, 103, 104, 105, 106, 107, 108, 109, 110] [0, 2] σ0 σ9 := by rw [eσ9]; exact Fr_si f0 (by decide +kernel) (fun h9 => absurd h9 (by decide +kernel))
        have k_26 : (gi σ9 74 0).toInt = (gi σ0 74 0).toInt := gk_l eσ9 rfl
        try have hP9 : PL σ9 := by rw [eσ9]; exact PL_st (by with_reducible assumption) (by decide +kernel) (by decide +kernel)
        have t_27 := MI_f0 mσ9
        have hv_28 : vp_in (gi σ9 74 0) 6 := vp_in_iff.mpr ⟨by omega, by omega⟩
        refine ⟨hv_28, ?_⟩
        intro σ11 eσ11
        replace H := f_l eσ11 H
        have mσ11 : MI σ11 := by rw [eσ11]; exact MIs_au (a := 104) mσ9 rfl rfl
        have fσ11 : Fr [74, 103, 104, 105, 106, 107, 108, 109, 110] [0, 2] σ0 σ11 := by rw [eσ11]; exact Fr_si fσ9 (by decide +kernel) (fun h9 => absurd h9 (by decide +kernel))
        have k_29 : (gi σ11 74 0).toInt = (gi σ9 74 0).toInt := gk_l eσ11 rfl
        try have hP9 : PL σ11 := by rw [eσ11]; exact PL_st (by with_reducible assumption) (by decide +kernel) (by decide +kernel)
        have t_30 := MI_f0 mσ11
        have hv_31 : vp_in (gi σ11 74 0) 6 := vp_in_iff.mpr ⟨by omega, by omega⟩
        refine ⟨hv_31, ?_⟩
        intro σ13 eσ13
        replace H := f_l eσ13 H
        have z_32 : (0 : Int32).toInt = 0 := rfl
        have mσ13 : MI σ13 := by rw [eσ13]; exact MIs_a105 mσ11 (by omega) (by omega)
        have fσ13 : Fr [74, 103, 104, 105, 106, 107, 108, 109, 110] [0, 2] σ0 σ13 := by rw [eσ13]; exact Fr_si fσ11 (by decide +kernel) (fun h9 => absurd h9 (by decide +kernel))
        have k_33 : (gi σ13 74 0).toInt = (gi σ11 74 0).toInt := gk_l eσ13 rfl
        try have hP9 : PL σ13 := by rw [eσ13]; exact PL_st (by with_reducible assumption) (by decide +kernel) (by decide +kernel)
        have t_34 := MI_f0 mσ13
        have hv_35 : vp_in (gi σ13 74 0) 6 := vp_in_iff.mpr ⟨by omega, by omega⟩
        refine ⟨hv_35, ?_⟩
        intro σ15 eσ15
        replace H := f_l eσ15 H
        have mσ15 : MI σ15 := by rw [eσ15]; exact MIs_au (a := 106) mσ13 rfl rfl
        have fσ15 : Fr [74, 103, 104, 105, 106, 107, 108, 109, 110] [0, 2] σ0 σ15 := by rw [eσ15]; exact Fr_si fσ13 (by decide +kernel) (fun h9 => absurd h9 (by decide +kernel))
        have k_36 : (gi σ15 74 0).toInt = (gi σ13 74 0).toInt := gk_l eσ15 rfl
        try have hP9 : PL σ15 := by rw [eσ15]; exact PL_st (by with_reducible assumption) (by decide +kernel) (by decide +kernel)
        have t_37 := MI_f0 mσ15
        have hv_38 : vp_in (gi σ15 74 0) 6 := vp_in_iff.mpr ⟨by omega, by omega⟩
        refine ⟨hv_38, ?_⟩
        intro σ17 eσ17
        replace H := f_l eσ17 H
        have mσ17 : MI σ17 := by rw [eσ17]; exact MIs_au (a := 107) mσ15 rfl rfl
        have fσ17 : Fr [74, 103, 104, 105, 106, 107, 108, 109, 110] [0, 2] σ0 σ17 := by rw [eσ17]; exact Fr_si fσ15 (by decide +kernel) (fun h9 => absurd h9 (by decide +kernel))
        have k_39 : (gi σ17 74 0).toInt = (gi σ15 74 0).toInt := gk_l eσ17 rfl
        try have hP9 : PL σ17 := by rw [eσ17]; exact PL_st (by with_reducible assumption) (by decide +kernel) (by decide +kernel)
        have t_40 := MI_f0 mσ17
        have hv_41 : vp_in (gi σ17 74 0) 6 := vp_in_iff.mpr ⟨by omega, by omega⟩
        refine ⟨hv_41, ?_⟩
        intro σ19 eσ19
        replace H := f_l eσ19 H
        have mσ19 : MI σ19 := by rw [eσ19]; exact MIs_au (a := 108) mσ17 rfl rfl
        have fσ19 : Fr [74, 103, 104, 105, 106, 107, 108, 109, 110] [0, 2] σ0 σ19 := by rw [eσ19]; exact Fr_si fσ17 (by decide +kernel) (fun h9 => absurd h9 (by decide +kernel))
        have k_42 : (gi σ19 74 0).toInt = (gi σ17 74 0).toInt := gk_l eσ19 rfl
        try have hP9 : PL σ19 := by rw [eσ19]; exact PL_st (by with_reducible assumption) (by decide +kernel) (by decide +kernel)
        have t_43 := MI_f0 mσ19
        have hv_44 : vp_in (gi σ19 74 0) 6 := vp_in_iff.mpr ⟨by omega, by omega⟩
        refine ⟨hv_44, ?_⟩
        intro σ21 eσ21
        replace H := f_l eσ21 H
        have mσ21 : MI σ21 := by rw [eσ21]; exact MIs_a110 mσ19 (by omega) (by omega)
        have fσ21 : Fr [74, 103, 104, 105, 106, 107, 108, 109, 110] [0, 2] σ0 σ21 := by rw [eσ21]; exact Fr_si fσ19 (by decide +kernel) (fun h9 => absurd h9 (by decide +kernel))
        have k_45 : (gi σ21 74 0).toInt = (gi σ19 74 0).toInt := gk_l eσ21 rfl
        try have hP9 : PL σ21 := by rw [eσ21]; exact PL_st (by with_reducible assumption) (by decide +kernel) (by decide +kernel)
        exact U115 (0 : Int32) σ21 mσ21 fσ21 (by omega) (by omega) (by first | with_reducible assumption | with_reducible rfl | omega | assumption | rfl) (by first | with_reducible assumption | with_reducible rfl | omega | assumption | rfl) (by first | (rw [show (gi σ21 74 0).toInt + 1 = (gi σ19 74 0).toInt + 1 from by omega, eσ21]; exact PLx_new (by with_reducible assumption) (by omega) rfl) | (rw [show (gi σ5 74 0).toInt + 1 = (gi σ0 74 0).toInt + 1 from by omega, eσ5]; exact PLx_st i2 (by decide +kernel))) (by first | with_reducible assumption | with_reducible rfl | omega | assumption | rfl) (by first | with_reducible assumption | with_reducible rfl | omega | assumption | rfl) (by first | with_reducible assumption | with_reducible rfl | omega | assumption | rfl) (by first | with_reducible assumption | with_reducible rfl | omega | assumption | rfl) H (by omega)
      · intro q_22
        replace H := f_t q_22 H
        have t_46 := MI_f0 m0
        have b_47 : (gi σ0 74 0).toInt = 6 := congrArg Int32.toInt q_22
        have z_48 : (-4 : Int32).toInt = -4 := rfl
        exact h9ret (-4 : Int32) σ0 m0 f0 (by first | assumption | (show PLx σ3 (gi σ3 74 0).toInt; rw [show (gi σ3 74 0).toInt = (gi σ0 74 0).toInt + 1 from by omega, eσ3, eσ2]; exact PLx_st (PLx_st i2 (by decide +kernel)) (by decide +kernel))) (by first | with_reducible assumption | with_reducible rfl | omega | assumption | rfl) (by first | with_reducible assumption | with_reducible rfl | omega | assumption | rfl) (H0.trans H.symm)
    · intro q_20
      replace H := f_t q_20 H
      have b_49 : r5.toInt = 0 := congrArg Int32.toInt q_20
      have z_50 : (-2 : Int32).toInt = -2 := rfl
      exact h9ret (-2 : Int32) σ0 m0 f0 (by first | assumption | (show PLx σ3 (gi σ3 74 0).toInt; rw [show (gi σ3 74 0).toInt = (gi σ0 74 0).toInt + 1 from by omega, eσ3, eσ2]; exact PLx_st (PLx_st i2 (by decide +kernel)) (by decide +kernel))) (by first | with_reducible assumption | with_reducible rfl | omega | assumption | rfl) (by first | with_reducible assumption | with_reducible rfl | omega | assumption | rfl) (H0.trans H.symm)
  · intro q_18
    replace H := f_t q_18 H
    have b_51 : r2.toInt = 0 := congrArg Int32.toInt q_18
    have z_52 : (-1 : Int32).toInt = -1 := rfl
    exact h9ret (-1 : Int32) σ0 m0 f0 (by first | assumption | (show PLx σ3 (gi σ3 74 0).toInt; rw [show (gi σ3 74 0).toInt = (gi σ0 74 0).toInt + 1 from by omega, eσ3, eσ2]; exact PLx_st (PLx_st i2 (by decide +kernel)) (by decide +kernel))) (by first | with_reducible assumption | with_reducible rfl | omega | assumption | rfl) (by first | with_reducible assumption | with_reducible rfl | omega | assumption | rfl) (H0.trans H.symm)
