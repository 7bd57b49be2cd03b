/-! all that stands of the minutes, alike in both -/
noncomputable def BR (σ : Sg) (a n : Nat) (hi : Int) : Prop := ∀ k, k < n → 0 ≤ (gi σ a k).toInt ∧ (gi σ a k).toInt ≤ hi
noncomputable def BNW (σ : Sg) : Prop := BR σ 103 6 6 ∧ BR σ 104 6 9 ∧ BR σ 105 6 9999 ∧ BR σ 106 6 10 ∧ BR σ 107 6 99 ∧ BR σ 108 6 99 ∧ BR σ 109 24 9
noncomputable def BIM (σ : Sg) : Prop := BR σ 156 6 6 ∧ BR σ 157 6 9 ∧ BR σ 158 6 9999 ∧ BR σ 159 6 10 ∧ BR σ 160 6 99 ∧ BR σ 161 6 99 ∧ BR σ 163 24 9
noncomputable def EQN (σ : Sg) (c a : Nat) : Prop := ∀ m : Nat, m < 6 → ((m : Int) < (gi σ c 1).toInt → gi σ (c + 3) m = gi σ a m ∧ gi σ (c + 4) m = gi σ (a + 1) m ∧ gi σ (c + 5) m = gi σ (a + 2) m ∧ gi σ (c + 6) m = gi σ (a + 3) m) ∧ ((gi σ c 1).toInt ≤ (m : Int) → gi σ (c + 3) m = 0 ∧ gi σ (c + 5) m = 0 ∧ gi σ (c + 6) m = 0)
noncomputable def MN (σ : Sg) : Prop := BNW σ ∧ BIM σ ∧ EQN σ 1 105 ∧ EQN σ 17 158 ∧ gi σ 74 2 = gi σ 74 0 ∧ gi σ 74 28 = (-1 : Int32) ∧ gi σ 1 11 = (-1 : Int32) ∧ gi σ 17 11 = (-1 : Int32)
noncomputable def Rmn (id k : Nat) : Prop := (103 ≤ id ∧ id ≤ 109) ∨ (156 ≤ id ∧ id ≤ 161) ∨ id = 163 ∨ (4 ≤ id ∧ id ≤ 7) ∨ (20 ≤ id ∧ id ≤ 23) ∨ (id = 1 ∧ (k = 1 ∨ k = 11)) ∨ (id = 17 ∧ (k = 1 ∨ k = 11)) ∨ (id = 74 ∧ (k = 0 ∨ k = 2 ∨ k = 28))
theorem BR_eq {σ σ' : Sg} {a n : Nat} {hi : Int} (e : ∀ k, k < n → gi σ' a k = gi σ a k) (h : BR σ a n hi) : BR σ' a n hi := fun k hk => by rw [e k hk]; exact h k hk
theorem BNW_eq {σ σ' : Sg} (e : ∀ id k, 103 ≤ id → id ≤ 109 → gi σ' id k = gi σ id k) (h : BNW σ) : BNW σ' := by
  obtain ⟨h1, h2, h3, h4, h5, h6, h7⟩ := h
  exact ⟨BR_eq (fun k _ => e 103 k (by decide) (by decide)) h1, BR_eq (fun k _ => e 104 k (by decide) (by decide)) h2, BR_eq (fun k _ => e 105 k (by decide) (by decide)) h3, BR_eq (fun k _ => e 106 k (by decide) (by decide)) h4, BR_eq (fun k _ => e 107 k (by decide) (by decide)) h5, BR_eq (fun k _ => e 108 k (by decide) (by decide)) h6, BR_eq (fun k _ => e 109 k (by decide) (by decide)) h7⟩
theorem BIM_eq {σ σ' : Sg} (e : ∀ id k, 156 ≤ id → id ≤ 163 → id ≠ 162 → gi σ' id k = gi σ id k) (h : BIM σ) : BIM σ' := by
  obtain ⟨h1, h2, h3, h4, h5, h6, h7⟩ := h
  exact ⟨BR_eq (fun k _ => e 156 k (by decide) (by decide) (by decide)) h1, BR_eq (fun k _ => e 157 k (by decide) (by decide) (by decide)) h2, BR_eq (fun k _ => e 158 k (by decide) (by decide) (by decide)) h3, BR_eq (fun k _ => e 159 k (by decide) (by decide) (by decide)) h4, BR_eq (fun k _ => e 160 k (by decide) (by decide) (by decide)) h5, BR_eq (fun k _ => e 161 k (by decide) (by decide) (by decide)) h6, BR_eq (fun k _ => e 163 k (by decide) (by decide) (by decide)) h7⟩
theorem EQN_eq {σ σ' : Sg} {c a : Nat} (e1 : (gi σ' c 1).toInt = (gi σ c 1).toInt) (e : ∀ id k, (c + 3 ≤ id ∧ id ≤ c + 6) ∨ (a ≤ id ∧ id ≤ a + 3) → gi σ' id k = gi σ id k) (h : EQN σ c a) : EQN σ' c a := by
  intro m hm
  rw [e1, e (c + 3) m (by omega), e (c + 4) m (by omega), e (c + 5) m (by omega), e (c + 6) m (by omega), e a m (by omega), e (a + 1) m (by omega), e (a + 2) m (by omega), e (a + 3) m (by omega)]
  exact h m hm
theorem MN_eq {σ σ' : Sg} (e : ∀ id k, Rmn id k → gi σ' id k = gi σ id k) (h : MN σ) : MN σ' := by
  obtain ⟨h1, h2, h3, h4, h5, h6, h7, h8⟩ := h
  exact ⟨BNW_eq (fun id k a b => e id k (by unfold Rmn; omega)) h1, BIM_eq (fun id k a b c => e id k (by unfold Rmn; omega)) h2, EQN_eq (by rw [e 1 1 (by unfold Rmn; omega)]) (fun id k a => e id k (by unfold Rmn; omega)) h3, EQN_eq (by rw [e 17 1 (by unfold Rmn; omega)]) (fun id k a => e id k (by unfold Rmn; omega)) h4, by rw [e 74 2 (by unfold Rmn; omega), e 74 0 (by unfold Rmn; omega)]; exact h5, by rw [e 74 28 (by unfold Rmn; omega)]; exact h6, by rw [e 1 11 (by unfold Rmn; omega)]; exact h7, by rw [e 17 11 (by unfold Rmn; omega)]; exact h8⟩
theorem MN_x {S : Nat → Prop} {F : Nat → Nat → Prop} {σ σ' : Sg} (f : FX S F σ σ') (h : ∀ id k, Rmn id k → ¬ S id ∧ ¬ F id k) (q : MN σ) : MN σ' := MN_eq (fun id k a => f.1 id k (h id k a).1 (h id k a).2) q
theorem MN_m {S F : List Nat} {σ σ' : Sg} (f : Fr S F σ σ') (h : ∀ id ∈ S, (74 ≤ id ∧ id < 103) ∨ (109 < id ∧ id < 156) ∨ id = 162 ∨ (163 < id ∧ id < 1000)) (hF : ∀ k ∈ F, k ≠ 0 ∧ k ≠ 2 ∧ k ≠ 28) (q : MN σ) : MN σ' := by
  refine MN_eq (fun id k a => ?_) q
  by_cases e : id = 74
  · subst e
    exact f.2.1 k (fun z => by have := hF k z; unfold Rmn at a; omega)
  · exact congrFun (f.1 id (fun z => by have := h id z; unfold Rmn at a; omega)).1 k
theorem MN_z {σ σ' : Sg} (f : FXz σ σ') (q : MN σ) : MN σ' := MN_eq (fun id k a => FXz_i f (by unfold Rmn at a; omega)) q
theorem lastW_b {w : Nat} : ∀ (cl : List Cls) (d : Nat), PW cl → d ≤ 99 → lastW w d cl ≤ 99 := by
  intro cl
  induction cl with
  | nil => intro d _ h; exact h
  | cons c cl ih =>
    intro d hp hd
    have hc := hp c List.mem_cons_self
    show lastW w (if c.1 = w then c.2.1 else d) cl ≤ 99
    refine ih _ (fun x hx => hp x (List.mem_cons_of_mem _ hx)) ?_
    split
    · exact hc.2.1
    · exact hd
/-- the field that holds, in both -/
theorem HLD_get {σ : Sg} (q : RF σ) (h5 : (gi σ 74 11).toInt ≤ 6) : ∃ (cl : List Cls) (f : Nat), gr σ 1 10 = some f ∧ (f = 69 ∨ 1000 ≤ f) ∧ FdA σ f cl ∧ MH σ cl ∧ PW cl ∧ cl.length ≤ 10 ∧ (toksOf cl).length ≤ 100 := by
  obtain ⟨⟨-, ⟨f1, -, -, f3⟩, b, -⟩, h, -⟩ := q
  rcases h with ⟨a, g⟩ | ⟨k, a, c, g⟩
  · exact ⟨[], 69, g, Or.inl rfl, b, Or.inl ⟨a, rfl⟩, (fun c hc => absurd hc List.not_mem_nil), Nat.zero_le _, Nat.zero_le _⟩
  · obtain ⟨cl, k1, k2, k3, k4, k5, k6⟩ := f3 k (by omega)
    exact ⟨cl, 1000 + 5 * k, g, Or.inr (by omega), k1, Or.inr ⟨k, a, by omega, k2, k3⟩, k5, k4, k6⟩
theorem cl_nat {x : Int32} (h : 0 ≤ x.toInt) : ((x.toInt.toNat : Nat) : Int) = x.toInt := by omega
/-- both states, known -/
theorem HX {V : Vx} {σ : Sg} (q : RELF σ) (mn : MN σ) (hI : INV V σ) : ∃ (n : Nat) (S : Stc) (D : Dyn), (n : Int) = (gi σ 1 1).toInt ∧ HMo n 9999 S D σ ∧ CS 1 n S σ ∧ CDy 1 n D σ ∧ (∀ p, p < n → S_ln S p = (gi σ 110 p).toNatClampNeg) ∧ (∀ k, D_at D k = (gi σ 105 k).toInt) ∧ D_m D = (gi σ 74 1).toInt := by
  obtain ⟨⟨⟨s1, s2, s3, s4, s5, s6, s7, s8, -⟩, -, ⟨-, rl, -, rt, -, rk, -⟩⟩, rf⟩ := q
  obtain ⟨⟨b1, b2, b3, b4, b5, b6, b7⟩, -, eq, -, m2, m28, m11, -⟩ := mn
  have hm := MI_f0 hI.2.1
  have h1 := MI_f1 hI.2.1
  have h9 := hI.2.2.2.2.2.2.1
  have h13 := hI.1.2.2.2.1
  have nn := hI.1.2.1.1
  obtain ⟨cl, f, g10, hf, fa, mh, pw, cl10, tk⟩ := HLD_get rf (MI_f11 hI.2.1).2
  obtain ⟨n, hn⟩ : ∃ n : Nat, (n : Int) = (gi σ 1 1).toInt := ⟨(gi σ 1 1).toInt.toNat, by omega⟩
  have m2' : (gi σ 74 2).toInt = (n : Int) := by rw [m2]; omega
  have m28' : (gi σ 74 28).toInt = -1 := by rw [m28]; rfl
  have m11' : (gi σ 1 11).toInt = -1 := by rw [m11]; rfl
  have ln : ∀ p, p < n → 0 ≤ (gi σ 110 p).toInt ∧ (gi σ 110 p).toInt < (n : Int) := fun p hp => by
    have a := nn p (by omega)
    have b := rl p (by omega)
    have c := XI_c1 hI.1.1 (lim_C2 (c := 1) (Or.inl rfl) p)
    have b' : gi σ 3 p = gi σ 110 p := b
    have a' : (gi σ 3 p).toInt < (gi σ 1 1).toInt := a
    have c' : 0 ≤ (gi σ 3 p).toInt ∧ (gi σ 3 p).toInt ≤ 5 := c
    rw [b'] at a' c'
    omega
  refine ⟨n, (n, (fun p => (gi σ 110 p).toNatClampNeg), (fun m => (gi σ 103 m).toInt), (fun m => (gi σ 104 m).toInt), (fun k => (gi σ 109 k).toInt), (lastW 2 2 cl : Int), (lastW 3 1 cl : Int), cl), ((gi σ 74 1).toInt, (fun m => (gi σ 105 m).toInt), (fun m => (gi σ 106 m).toInt), (fun m => (gi σ 107 m).toInt), (fun m => (gi σ 108 m).toInt)), hn, ⟨⟨by omega, Nat.le_refl n, fun p hp => ?_, fun m hm => ⟨b1 m (by omega), b2 m (by omega)⟩, fun k hk => b7 k hk, ?_, ?_, pw, cl10, tk⟩, ⟨by show 0 ≤ (gi σ 74 1).toInt ∧ (gi σ 74 1).toInt ≤ 9999; omega, fun m hm => ⟨b3 m (by omega), b4 m (by omega), b5 m (by omega), ?_⟩⟩, by decide, rfl, fun m hm => (b6 m (by omega)).2, ⟨by omega, m2', fun p hp => ?_, fun m hm => rfl, fun m hm => rfl, fun k hk => rfl, mh, rfl, Or.inr ⟨by omega, rfl⟩⟩, ⟨rfl, fun m hm => rfl, fun m hm => rfl, fun m hm => rfl, fun m hm => rfl⟩⟩, ⟨hn.symm, by show (gi σ 1 3).toInt = (n : Int); omega, fun p hp => ?_, fun m hm => ?_, fun k hk => by show (gi σ 8 k).toInt = (gi σ 109 k).toInt; rw [rt.1 k hk], ⟨f, g10, hf, fa⟩, rfl, Or.inr ⟨by omega, rfl⟩⟩, ⟨s8, fun m hm => ?_, fun m hm => ?_, fun m hm => ?_, fun m hm => ?_⟩, fun p hp => rfl, fun k => rfl, rfl⟩
  · have hp : p < n := hp
    have := ln p hp
    have := cl_eq (x := gi σ 110 p) (by omega)
    show (gi σ 110 p).toNatClampNeg < n
    omega
  · have := lastW_b (w := 2) cl 2 pw (by decide)
    show 0 ≤ (lastW 2 2 cl : Int) ∧ (lastW 2 2 cl : Int) ≤ 99
    omega
  · have := lastW_b (w := 3) cl 1 pw (by decide)
    show 0 ≤ (lastW 3 1 cl : Int) ∧ (lastW 3 1 cl : Int) ≤ 99
    omega
  · have := b6 m (by omega)
    show 0 ≤ (gi σ 108 m).toInt ∧ (gi σ 108 m).toInt ≤ 1000
    omega
  · have hp : p < n := hp
    exact (cl_eq (ln p hp).1).symm
  · have hp : p < n := hp
    show (gi σ 3 p).toInt = (((gi σ 110 p).toNatClampNeg : Nat) : Int)
    rw [rl p (by omega)]
    exact (cl_eq (ln p hp).1).symm
  · obtain ⟨μ, κ, a1, a2, a3, a4, a5, a6, a7, a8⟩ := rk m (by omega)
    exact ⟨μ, κ, a1, a2, a3, a4, a5, a6, a7, congrArg Int32.toInt a8⟩
  · show (gi σ 4 m).toInt = (gi σ 105 m).toInt
    rw [((eq m (by omega)).1 (by omega)).1]
  · show (gi σ 5 m).toInt = (gi σ 106 m).toInt
    rw [((eq m (by omega)).1 (by omega)).2.1]
  · show (gi σ 6 m).toInt = (gi σ 107 m).toInt
    rw [((eq m (by omega)).1 (by omega)).2.2.1]
  · show (gi σ 7 m).toInt = (gi σ 108 m).toInt
    rw [((eq m (by omega)).1 (by omega)).2.2.2]
theorem HMo_ma {n : Nat} {K : Int} {S : Stc} {D : Dyn} {σ σ' : Sg} (f : MA σ σ') (h : HMo n K S D σ) : HMo n K S D σ' :=
  ⟨h.1, h.2.1, h.2.2.1, h.2.2.2.1, h.2.2.2.2.1, MS_eq (fun id k a => f id (by omega) (by omega) k) h.2.2.2.2.2.1, MDy_eq (fun id k a => f id (by omega) (by omega) k) h.2.2.2.2.2.2⟩
