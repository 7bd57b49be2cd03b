/-! more that both states have alike: what ran, rows, told ones, kinds -/
theorem TP_x {S : Nat → Prop} {F : Nat → Nat → Prop} {σ σ' : Sg} (f : FX S F σ σ') (h1 : ∀ id, id = 64 ∨ id = 65 ∨ id = 74 ∨ id = 170 → ¬ S id) (h2 : ∀ id k, id = 64 ∨ id = 65 ∨ id = 74 ∨ id = 170 → ¬ F id k) (q : TP σ σ) : TP σ' σ' := by
  have e : ∀ id k, id = 64 ∨ id = 65 ∨ id = 74 ∨ id = 170 → gi σ' id k = gi σ id k := fun id k h => f.1 id k (h1 id h) (h2 id k h)
  exact ⟨by rw [e 64 _ (by omega), e 74 _ (by omega)]; exact q.1, fun k hk => by rw [e 65 _ (by omega), e 170 _ (by omega)]; exact q.2 k hk⟩
theorem TP_m {S F : List Nat} {σ σ' : Sg} (f : Fr S F σ σ') (h : ∀ id ∈ S, 74 ≤ id ∧ id ≠ 170) (h2 : 69 ∉ F) (q : TP σ σ) : TP σ' σ' := by
  have e : ∀ id k, id = 64 ∨ id = 65 ∨ id = 170 → gi σ' id k = gi σ id k := fun id k g => congrFun (f.1 id (fun z => by have := h id z; omega)).1 k
  exact ⟨by rw [e 64 _ (by omega), f.2.1 69 h2]; exact q.1, fun k hk => by rw [e 65 _ (by omega), e 170 _ (by omega)]; exact q.2 k hk⟩
theorem RLn_x {S : Nat → Prop} {F : Nat → Nat → Prop} {σ σ' : Sg} {c a : Nat} (f : FX S F σ σ') (h1 : ∀ id, id = c ∨ id = a → ¬ S id) (h2 : ∀ id k, id = c ∨ id = a → ¬ F id k) (q : RLn σ c a) : RLn σ' c a := fun p hp => by
  rw [f.1 c p (h1 c (Or.inl rfl)) (h2 c p (Or.inl rfl)), f.1 a p (h1 a (Or.inr rfl)) (h2 a p (Or.inr rfl))]
  exact q p hp
theorem RLn_m {S F : List Nat} {σ σ' : Sg} {c a : Nat} (f : Fr S F σ σ') (hc : c ∉ S) (ha : a ∉ S) (q : RLn σ c a) : RLn σ' c a := fun p hp => by
  rw [show gi σ' c p = gi σ c p from congrFun (f.1 c hc).1 p, show gi σ' a p = gi σ a p from congrFun (f.1 a ha).1 p]
  exact q p hp
theorem RLn_cd {S F : List Nat} {σ σ' : Sg} {c : Nat} (f : Fr S F σ σ') (hc : c ∉ S) (d : CD σ σ' 110 110 6) (q : RLn σ c 110) : RLn σ' c 110 := fun p hp => by
  rw [show gi σ' c p = gi σ c p from congrFun (f.1 c hc).1 p, d p (by omega)]
  exact q p hp
theorem RT_x {S : Nat → Prop} {F : Nat → Nat → Prop} {σ σ' : Sg} {c cn m : Nat} (f : FX S F σ σ') (h1 : ∀ id, id = c ∨ id = m → ¬ S id) (h2 : ∀ id k, id = c ∨ id = m → ¬ F id k) (e : (gi σ' cn 1).toInt = (gi σ cn 1).toInt) (q : RT σ c cn m) : RT σ' c cn m :=
  ⟨fun k hk => by rw [f.1 c k (h1 c (Or.inl rfl)) (h2 c k (Or.inl rfl)), f.1 m k (h1 m (Or.inr rfl)) (h2 m k (Or.inr rfl))]; exact q.1 k hk, fun k hk h => by rw [f.1 c k (h1 c (Or.inl rfl)) (h2 c k (Or.inl rfl))]; exact q.2 k hk (by rw [← e]; exact h)⟩
theorem RT_m {S F : List Nat} {σ σ' : Sg} {c cn m : Nat} (f : Fr S F σ σ') (hc : c ∉ S) (hm : m ∉ S) (hn : cn ∉ S) (q : RT σ c cn m) : RT σ' c cn m := by
  have e : ∀ k, gi σ' c k = gi σ c k := fun k => congrFun (f.1 c hc).1 k
  have g : ∀ k, gi σ' m k = gi σ m k := fun k => congrFun (f.1 m hm).1 k
  have n : gi σ' cn 1 = gi σ cn 1 := congrFun (f.1 cn hn).1 1
  exact ⟨fun k hk => by rw [e, g]; exact q.1 k hk, fun k hk h => by rw [e]; exact q.2 k hk (by rw [← n]; exact h)⟩
theorem RK_of {σ σ' : Sg} {c cn a b : Nat} (e : (gi σ' cn 1).toInt = (gi σ cn 1).toInt) (r : ∀ k, gr σ' c k = gr σ c k) (ga : ∀ k, gi σ' a k = gi σ a k) (gb : ∀ k, gi σ' b k = gi σ b k) (gm : ∀ id k, 2000 ≤ id → gi σ' id k = gi σ id k) (q : RK σ c cn a b) : RK σ' c cn a b := fun m hm => by
  obtain ⟨μ, κ, h1, h2, h3, h4, h5, h6, h7, h8⟩ := q m (by rw [← e]; exact hm)
  exact ⟨μ, κ, by rw [r]; exact h1, h2, h3, h4, by rw [ga]; exact h5, by rw [gm _ _ h3]; exact h6, by rw [gm _ _ h3]; exact h7, by rw [gm _ _ h3, gb]; exact h8⟩
theorem RK_x {S : Nat → Prop} {F : Nat → Nat → Prop} {σ σ' : Sg} {c cn a b : Nat} (f : FX S F σ σ') (h1 : ∀ id, id = c ∨ id = a ∨ id = b ∨ 2000 ≤ id → ¬ S id) (h2 : ∀ id k, id = c ∨ id = a ∨ id = b ∨ 2000 ≤ id → ¬ F id k) (e : (gi σ' cn 1).toInt = (gi σ cn 1).toInt) (q : RK σ c cn a b) : RK σ' c cn a b :=
  RK_of e (fun k => f.2.2 c k (h1 c (Or.inl rfl)) (h2 c k (Or.inl rfl))) (fun k => f.1 a k (h1 a (Or.inr (Or.inl rfl))) (h2 a k (Or.inr (Or.inl rfl)))) (fun k => f.1 b k (h1 b (Or.inr (Or.inr (Or.inl rfl)))) (h2 b k (Or.inr (Or.inr (Or.inl rfl))))) (fun id k h => f.1 id k (h1 id (Or.inr (Or.inr (Or.inr h)))) (h2 id k (Or.inr (Or.inr (Or.inr h))))) q
theorem RK_m {S F : List Nat} {σ σ' : Sg} {c cn a b : Nat} (f : Fr S F σ σ') (hs : ∀ id ∈ S, 74 ≤ id ∧ id < 1000 ∧ id ≠ a ∧ id ≠ b) (hn : cn < 74) (q : RK σ c cn a b) : RK σ' c cn a b :=
  RK_of (congrArg Int32.toInt (congrFun (f.1 cn (fun z => by have := hs _ z; omega)).1 1)) (fun k => congrFun (congrFun f.2.2 c) k) (fun k => congrFun (f.1 a (fun z => by have := hs _ z; omega)).1 k) (fun k => congrFun (f.1 b (fun z => by have := hs _ z; omega)).1 k) (fun id k h => congrFun (f.1 id (fun z => by have := hs _ z; omega)).1 k) q
/-- the model's mower, as a function: what it makes -/
theorem LF_mmower {n0 : Nat} (h6 : n0 < 6) : ∀ (n x : Nat) (σ : Sg), gi σ 74 0 = nI n0 → x ≤ 4 → 4 - x < n → LF_X12_mower n (nI x) σ = (nI (n0 + 1) - 1, si (si (sia σ 109 (fun j => if 4 * n0 + x ≤ j ∧ j < 4 * n0 + 4 then 0 else gi σ 109 j)) 74 0 (nI (n0 + 1))) 74 2 (nI (n0 + 1))) := by
  intro n
  induction n with
  | zero => intro x σ _ _ h; exact absurd h (Nat.not_lt_zero _)
  | succ n ih =>
    intro x σ h0 hx hn
    show LB_X12_mower_115 (LF_X12_mower n) (nI x) σ = _
    unfold LB_X12_mower_115
    rw [show (4 : Int32) = nI 4 from rfl, h0]
    by_cases c : 4 ≤ x
    · rw [if_pos (nI_le c (by omega)), sia_self (fun j => by rw [if_neg (by omega)])]
      simp only [fl_mk]
      rw [gi_si_eq, gi_si_ne (Or.inr (by decide)), gi_si_eq, ← nI_succ]
    · rw [if_neg (nI_ge (by omega) (by omega)), ← nI_succ]
      simp only [fl_mk]
      have e4 : (nI 4 * nI n0 + nI x).toNatClampNeg = 4 * n0 + x := by
        have e : nI 4 * nI n0 + nI x = nI (4 * n0 + x) := by
          unfold nI
          rw [← Int32.ofNat_mul, ← Int32.ofNat_add]
        rw [e, nI_clamp (by omega)]
      rw [e4, ih (x + 1) _ (by rw [gi_si_ne (Or.inl (by decide))]; exact h0) (by omega) (by omega), show si σ 109 (4 * n0 + x) 0 = sia σ 109 (fun j => if j = 4 * n0 + x then 0 else gi σ 109 j) from si_sia, sia_sia]
      congr 1
      have ee : sia σ 109 (fun j => if 4 * n0 + (x + 1) ≤ j ∧ j < 4 * n0 + 4 then 0 else gi (sia σ 109 (fun j => if j = 4 * n0 + x then 0 else gi σ 109 j)) 109 j) = sia σ 109 (fun j => if 4 * n0 + x ≤ j ∧ j < 4 * n0 + 4 then 0 else gi σ 109 j) := by
        refine sia_ext (fun j => ?_)
        rw [gi_sia, if_pos rfl]
        by_cases q : 4 * n0 + x ≤ j ∧ j < 4 * n0 + 4
        · rw [if_pos q]
          by_cases q2 : j = 4 * n0 + x
          · rw [if_neg (by omega), if_pos q2]
          · rw [if_pos (by omega)]
        · rw [if_neg q, if_neg (by omega), if_neg (by omega)]
      rw [ee]
theorem N_mmower {a1 a2 r : Int32} {τ τ' : Sg} {n0 : Nat} (hn : gi τ 74 0 = nI n0) (h6 : n0 ≤ 6) (h : F_X12_mower a1 a2 τ = (r, τ')) : ((¬ (0 ≤ a1.toInt ∧ a1.toInt ≤ 6) ∨ ¬ (0 ≤ a2.toInt ∧ a2.toInt ≤ 9) ∨ n0 = 6) ∧ τ' = τ) ∨ ((0 ≤ a1.toInt ∧ a1.toInt ≤ 6) ∧ (0 ≤ a2.toInt ∧ a2.toInt ≤ 9) ∧ n0 < 6 ∧ (∀ k, gi τ' 103 k = if k = n0 then a1 else gi τ 103 k) ∧ (∀ k, gi τ' 104 k = if k = n0 then a2 else gi τ 104 k) ∧ (∀ k, gi τ' 105 k = if k = n0 then 0 else gi τ 105 k) ∧ (∀ k, gi τ' 106 k = if k = n0 then 10 else gi τ 106 k) ∧ (∀ k, gi τ' 107 k = if k = n0 then 0 else gi τ 107 k) ∧ (∀ k, gi τ' 108 k = if k = n0 then 0 else gi τ 108 k) ∧ (∀ k, gi τ' 110 k = if k = n0 then nI n0 else gi τ 110 k) ∧ (∀ k, gi τ' 109 k = if 4 * n0 ≤ k ∧ k < 4 * n0 + 4 then 0 else gi τ 109 k) ∧ ∀ a k, ¬ (103 ≤ a ∧ a ≤ 110) → a ≠ 74 → gi τ' a k = gi τ a k) := by
  have z0 : (0 : Int32).toInt = 0 := rfl
  have z6 : (6 : Int32).toInt = 6 := rfl
  have z9 : (9 : Int32).toInt = 9 := rfl
  unfold F_X12_mower at h
  rw [F_in, fb_mk, ite_10] at h
  by_cases c1 : 0 ≤ a1.toInt ∧ a1.toInt ≤ 6
  · rw [if_pos (by omega), F_in, fb_mk, ite_10] at h
    by_cases c2 : 0 ≤ a2.toInt ∧ a2.toInt ≤ 9
    · rw [if_pos (by omega), hn] at h
      by_cases c3 : n0 = 6
      · rw [if_pos (by rw [c3]; rfl)] at h
        exact Or.inl ⟨Or.inr (Or.inr c3), (Prod.mk.inj h).2.symm⟩
      · rw [if_neg (fun e => c3 (by have e2 := congrArg Int32.toInt e; rw [nI_toInt (by omega)] at e2; have : (n0 : Int) = 6 := e2; omega))] at h
        have hc : (nI n0).toNatClampNeg = n0 := nI_clamp (by omega)
        simp only [fl_mk] at h
        have g0 : ∀ s b k v, gi (si s b k v) 74 0 = if 74 = b ∧ 0 = k then v else gi s 74 0 := fun s b k v => gi_si
        obtain ⟨t, ht⟩ : ∃ t, t = si (si (si (si (si (si (si τ 103 n0 a1) 104 n0 a2) 105 n0 0) 106 n0 10) 107 n0 0) 108 n0 0) 110 n0 (nI n0) := ⟨_, rfl⟩
        have k74 : gi t 74 0 = nI n0 := by rw [ht]; simp only [gi_si]; simp [hn]
        have ha : LF_X12_mower 20 (nI 0) t = (r, τ') := by
          rw [ht, nI_0]
          rw [← h]
          congr 1
          simp only [gi_si, hn, hc]
          simp [hc, hn]
        rw [LF_mmower (by omega) 20 0 t k74 (by omega) (by omega)] at ha
        obtain ⟨-, rfl⟩ := Prod.mk.inj ha
        refine Or.inr ⟨c1, c2, by omega, fun k => ?_, fun k => ?_, fun k => ?_, fun k => ?_, fun k => ?_, fun k => ?_, fun k => ?_, fun k => ?_, fun a k h1 h2 => ?_⟩
        · simp only [gi_si, gi_sia]; rw [ht]; simp [gi_si]
        · simp only [gi_si, gi_sia]; rw [ht]; simp [gi_si]
        · simp only [gi_si, gi_sia]; rw [ht]; simp [gi_si]
        · simp only [gi_si, gi_sia]; rw [ht]; simp [gi_si]
        · simp only [gi_si, gi_sia]; rw [ht]; simp [gi_si]
        · simp only [gi_si, gi_sia]; rw [ht]; simp [gi_si]
        · simp only [gi_si, gi_sia]; rw [ht]; simp [gi_si]
        · simp only [gi_si, gi_sia]; rw [ht]; simp [gi_si]
        · rw [gi_si_ne (Or.inl h2), gi_si_ne (Or.inl h2), gi_sia, if_neg (by omega), ht]
          rw [gi_si_ne (Or.inl (by omega)), gi_si_ne (Or.inl (by omega)), gi_si_ne (Or.inl (by omega)), gi_si_ne (Or.inl (by omega)), gi_si_ne (Or.inl (by omega)), gi_si_ne (Or.inl (by omega)), gi_si_ne (Or.inl (by omega))]
    · rw [if_neg (by omega)] at h
      exact Or.inl ⟨Or.inr (Or.inl c2), (Prod.mk.inj h).2.symm⟩
  · rw [if_neg (by omega)] at h
    exact Or.inl ⟨Or.inl c1, (Prod.mk.inj h).2.symm⟩
