/-! what is told by hand, alike in both: seen ones, plans -/
noncomputable def SNr (σ : Sg) (c w : Nat) : Prop := ∀ k : Nat, 3 * (k : Int) < (gi σ (c + 8) 1).toInt → (gi σ (c + 9) (3 * k) = gi σ w k ∧ gi σ (c + 9) (3 * k + 1) = gi σ (w + 1) k ∧ gi σ (c + 9) (3 * k + 2) = gi σ (w + 2) k) ∧ (0 ≤ (gi σ w k).toInt ∧ (gi σ w k).toInt < (gi σ c 1).toInt) ∧ (0 ≤ (gi σ (w + 1) k).toInt ∧ (gi σ (w + 1) k).toInt ≤ 30)
noncomputable def PNr (σ : Sg) (c w : Nat) : Prop := ∀ k : Nat, (k : Int) < (gi σ (c + 10) 1).toInt → gi σ (c + 11) k = gi σ w k ∧ (0 ≤ (gi σ w k).toInt ∧ (gi σ w k).toInt ≤ 2)
noncomputable def SNP (σ : Sg) : Prop := SNr σ 1 142 ∧ SNr σ 17 164 ∧ PNr σ 1 147 ∧ PNr σ 17 167
theorem SNr_eq {σ σ' : Sg} {c w : Nat} (hc : (gi σ c 1).toInt ≤ (gi σ' c 1).toInt) (e8 : gi σ' (c + 8) 1 = gi σ (c + 8) 1) (e9 : ∀ k, gi σ' (c + 9) k = gi σ (c + 9) k) (e : ∀ a k, w ≤ a → a ≤ w + 2 → gi σ' a k = gi σ a k) (h : SNr σ c w) : SNr σ' c w := by
  intro k hk
  rw [e8] at hk
  obtain ⟨h1, h2, h3⟩ := h k hk
  rw [e9, e9, e9, e w k (by omega) (by omega), e (w + 1) k (by omega) (by omega), e (w + 2) k (by omega) (by omega)]
  exact ⟨h1, ⟨h2.1, by omega⟩, h3⟩
theorem PNr_eq {σ σ' : Sg} {c w : Nat} (e8 : gi σ' (c + 10) 1 = gi σ (c + 10) 1) (e9 : ∀ k, gi σ' (c + 11) k = gi σ (c + 11) k) (e : ∀ k, gi σ' w k = gi σ w k) (h : PNr σ c w) : PNr σ' c w := by
  intro k hk
  rw [e8] at hk
  rw [e9, e]
  exact h k hk
noncomputable def Rsn (id k : Nat) : Prop := (9 ≤ id ∧ id ≤ 12) ∨ (25 ≤ id ∧ id ≤ 28) ∨ (142 ≤ id ∧ id ≤ 144) ∨ id = 147 ∨ (164 ≤ id ∧ id ≤ 167) ∨ ((id = 1 ∨ id = 17) ∧ k = 1)
theorem SNP_eq {σ σ' : Sg} (e : ∀ id k, Rsn id k → gi σ' id k = gi σ id k) (h : SNP σ) : SNP σ' := by
  obtain ⟨h1, h2, h3, h4⟩ := h
  exact ⟨SNr_eq (by rw [e 1 1 (by unfold Rsn; omega)]; exact Int.le_refl _) (e _ _ (by unfold Rsn; omega)) (fun k => e _ k (by unfold Rsn; omega)) (fun a k x y => e a k (by unfold Rsn; omega)) h1, SNr_eq (by rw [e 17 1 (by unfold Rsn; omega)]; exact Int.le_refl _) (e _ _ (by unfold Rsn; omega)) (fun k => e _ k (by unfold Rsn; omega)) (fun a k x y => e a k (by unfold Rsn; omega)) h2, PNr_eq (e _ _ (by unfold Rsn; omega)) (fun k => e _ k (by unfold Rsn; omega)) (fun k => e _ k (by unfold Rsn; omega)) h3, PNr_eq (e _ _ (by unfold Rsn; omega)) (fun k => e _ k (by unfold Rsn; omega)) (fun k => e _ k (by unfold Rsn; omega)) h4⟩
theorem SNP_x {S : Nat → Prop} {F : Nat → Nat → Prop} {σ σ' : Sg} (f : FX S F σ σ') (h : ∀ id k, Rsn id k → ¬ S id ∧ ¬ F id k) (q : SNP σ) : SNP σ' := SNP_eq (fun id k a => f.1 id k (h id k a).1 (h id k a).2) q
theorem SNP_m {S F : List Nat} {σ σ' : Sg} (f : Fr S F σ σ') (h : ∀ id ∈ S, 74 ≤ id ∧ (id < 142 ∨ 144 < id) ∧ id ≠ 147 ∧ (id < 164 ∨ 167 < id) ∧ id < 1000) (q : SNP σ) : SNP σ' :=
  SNP_eq (fun id k a => congrFun (f.1 id (fun z => by have := h id z; unfold Rsn at a; omega)).1 k) q
theorem SNP_mower {σ σ1 σ2 : Sg} (h : (gi σ 1 1).toInt ≤ (gi σ1 1 1).toInt) (f : FX (fun id => id = 2 ∨ id = 3 ∨ id = 5 ∨ 2000 ≤ id) (fun id k => id = 1 ∧ (k = 1 ∨ k = 3)) σ σ1) (g : Fr [74, 103, 104, 105, 106, 107, 108, 109, 110] [0, 2] σ1 σ2) (q : SNP σ) : SNP σ2 := by
  have e : ∀ id k, Rsn id k → id ≠ 1 → gi σ2 id k = gi σ id k := fun id k a b => by
    rw [show gi σ2 id k = gi σ1 id k from congrFun (g.1 id (by intro z; simp at z; unfold Rsn at a; omega)).1 k]
    exact f.1 id k (by intro z; (try dsimp only at z); unfold Rsn at a; omega) (by intro z; (try dsimp only at z); omega)
  have e1 : gi σ2 1 1 = gi σ1 1 1 := congrFun (g.1 1 (by decide)).1 1
  obtain ⟨h1, h2, h3, h4⟩ := q
  exact ⟨SNr_eq (by rw [e1]; exact h) (e _ _ (by unfold Rsn; omega) (by decide)) (fun k => e _ k (by unfold Rsn; omega) (by decide)) (fun a k x y => e a k (by unfold Rsn; omega) (by omega)) h1, SNr_eq (by rw [e 17 1 (by unfold Rsn; omega) (by decide)]; exact Int.le_refl _) (e _ _ (by unfold Rsn; omega) (by decide)) (fun k => e _ k (by unfold Rsn; omega) (by decide)) (fun a k x y => e a k (by unfold Rsn; omega) (by omega)) h2, PNr_eq (e _ _ (by unfold Rsn; omega) (by decide)) (fun k => e _ k (by unfold Rsn; omega) (by decide)) (fun k => e _ k (by unfold Rsn; omega) (by decide)) h3, PNr_eq (e _ _ (by unfold Rsn; omega) (by decide)) (fun k => e _ k (by unfold Rsn; omega) (by decide)) (fun k => e _ k (by unfold Rsn; omega) (by decide)) h4⟩
theorem comN {c s : Nat} {a : Int32} {σ : Sg} (hs : (gi σ c 1).toInt = (s : Int)) (hn : s < nl c) (hl : nl c ≤ 1000) : F_X5_comes c a σ = si (si σ (c + 1) s a) c 1 (gi σ c 1 + (1 : Int32)) := by
  have ex := cl_eq (x := gi σ c 1) (by omega)
  have en : (Int32.ofNat (nl c)).toInt = (nl c : Int) := Int32.toInt_ofNat_of_lt (by omega)
  unfold F_X5_comes
  rw [if_neg (i_nle (by omega)), fl_e, fl_e, show (gi σ c 1).toNatClampNeg = s from by omega, gi_si_ne (Or.inl (by omega))]
theorem fulN {c s : Nat} {σ : Sg} (hs : (gi σ c 1).toInt = (s : Int)) (hl : nl c ≤ 1000) : F_X5_isFull c σ = (if s < nl c then (0 : Int32) else 1, σ) := by
  have en : (Int32.ofNat (nl c)).toInt = (nl c : Int) := Int32.toInt_ofNat_of_lt (by omega)
  unfold F_X5_isFull
  by_cases q : s < nl c
  · rw [if_pos (i_lt (by omega)), if_pos q]
  · rw [if_neg (i_nlt (by omega)), if_neg q]
theorem nl9 : nl 9 = 18 := by decide
theorem nl11 : nl 11 = 10 := by decide
theorem nl25 : nl 25 = 18 := by decide
theorem nl27 : nl 27 = 10 := by decide
theorem SNP_see {V : Vx} {a1 a2 a3 r1 r2 : Int32} {σ σ1 σ2 : Sg} (q : REL σ) (hI : INV V σ) (s : SNP σ) (h1 : F_X11_see a1 a2 a3 σ = (r1, σ1)) (h2 : F_X12_see a1 a2 a3 σ1 = (r2, σ2)) : SNP σ2 := by
  obtain ⟨⟨c1, -, -, -, -, -, -, -, -, c41, -⟩, -⟩ := q
  have hm := MI_f0 hI.2.1
  have b41 := MI_f41 hI.2.1
  obtain ⟨n, hn⟩ : ∃ n : Nat, (gi σ 74 0).toInt = (n : Int) := ⟨(gi σ 74 0).toInt.toNat, by omega⟩
  obtain ⟨t, ht⟩ : ∃ t : Nat, (gi σ 74 41).toInt = (t : Int) := ⟨(gi σ 74 41).toInt.toNat, by omega⟩
  have h9 : (gi σ 9 1).toInt = ((3 * t : Nat) : Int) := by omega
  unfold F_X11_see at h1
  unfold F_X12_see at h2
  by_cases e0 : a1 = (-1 : Int32)
  · rw [if_pos e0, fl_e] at h1 h2
    rw [← (Prod.mk.inj h2).2, ← (Prod.mk.inj h1).2]
    obtain ⟨s1, s2, s3, s4⟩ := s
    have e : ∀ id k, id ≠ 9 → id ≠ 74 → gi (si (si σ 9 1 (0 : Int32)) 74 41 (0 : Int32)) id k = gi σ id k := fun id k a b => by rw [gi_si_ne (Or.inl b), gi_si_ne (Or.inl a)]
    refine ⟨fun k hk => ?_, SNr_eq (by rw [e 17 1 (by decide) (by decide)]; exact Int.le_refl _) (e _ _ (by decide) (by decide)) (fun k => e _ k (by decide) (by decide)) (fun a k x y => e a k (by omega) (by omega)) s2, PNr_eq (e _ _ (by decide) (by decide)) (fun k => e _ k (by decide) (by decide)) (fun k => e _ k (by decide) (by decide)) s3, PNr_eq (e _ _ (by decide) (by decide)) (fun k => e _ k (by decide) (by decide)) (fun k => e _ k (by decide) (by decide)) s4⟩
    exfalso
    rw [show (1 + 8 : Nat) = 9 from rfl, gi_si_ne (Or.inl (by decide)), gi_si_eq] at hk
    have hk : 3 * (k : Int) < 0 := hk
    omega
  rw [if_neg e0] at h1 h2
  rw [isMC (n := n) (by omega), fb_e] at h1
  by_cases c : 0 ≤ a1.toInt ∧ a1.toInt < (n : Int)
  · rw [if_pos c, if_neg (show ¬ (1 : Int32) = 0 by decide)] at h1
    have bad : ∀ r : Int32, ¬ ((0 ≤ a2.toInt ∧ a2.toInt ≤ 30) ∧ (0 ≤ a3.toInt ∧ a3.toInt ≤ 9999)) → (r, σ) = (r1, σ1) → SNP σ2 := by
      intro r hb h1
      obtain ⟨-, rfl⟩ := Prod.mk.inj h1
      rw [F_mIs hn (by omega), fb_e, if_pos c, if_neg (show ¬ (1 : Int32) = 0 by decide), F_in, fb_e] at h2
      by_cases d : (0 : Int32).toInt ≤ a2.toInt ∧ a2.toInt ≤ (30 : Int32).toInt
      · rw [if_pos d, if_neg (show ¬ (1 : Int32) = 0 by decide), F_in, fb_e, if_neg (show ¬ ((0 : Int32).toInt ≤ a3.toInt ∧ a3.toInt ≤ (9999 : Int32).toInt) from fun z => hb ⟨d, z⟩), if_pos rfl] at h2
        rw [← (Prod.mk.inj h2).2]; exact s
      · rw [if_neg d, if_pos rfl] at h2
        rw [← (Prod.mk.inj h2).2]; exact s
    by_cases d0 : a2.toInt < 0
    · rw [if_pos (i_lt0 d0)] at h1; exact bad _ (by omega) h1
    rw [if_neg (i_nlt0 (by omega))] at h1
    by_cases d1 : 30 < a2.toInt
    · rw [if_pos (i_lt (show (30 : Int32).toInt < _ from d1))] at h1; exact bad _ (by omega) h1
    rw [if_neg (i_nlt (show _ ≤ (30 : Int32).toInt by show _ ≤ (30 : Int); omega))] at h1
    by_cases d2 : a3.toInt < 0
    · rw [if_pos (i_lt0 d2)] at h1; exact bad _ (by omega) h1
    rw [if_neg (i_nlt0 (by omega))] at h1
    by_cases d3 : a3.toInt ≤ 9999
    · rw [if_pos (i_le (show _ ≤ (9999 : Int32).toInt from d3)), fulN h9 (by rw [nl9]; decide), fb_e, nl9] at h1
      by_cases u : t = 6
      · rw [if_neg (show ¬ 3 * t < 18 by omega), if_neg (show ¬ (1 : Int32) = 0 by decide)] at h1
        obtain ⟨-, rfl⟩ := Prod.mk.inj h1
        rw [F_mIs hn (by omega), fb_e, if_pos c, if_neg (show ¬ (1 : Int32) = 0 by decide), F_in, fb_e, if_pos (show (0 : Int32).toInt ≤ a2.toInt ∧ a2.toInt ≤ (30 : Int32).toInt from ⟨by show (0 : Int) ≤ _; omega, by show _ ≤ (30 : Int); omega⟩), if_neg (show ¬ (1 : Int32) = 0 by decide), F_in, fb_e, if_pos (show (0 : Int32).toInt ≤ a3.toInt ∧ a3.toInt ≤ (9999 : Int32).toInt from ⟨by show (0 : Int) ≤ _; omega, d3⟩), if_neg (show ¬ (1 : Int32) = 0 by decide), if_pos (i_eq (show _ = (6 : Int) by omega))] at h2
        rw [← (Prod.mk.inj h2).2]; exact s
      · have k1 := comN (a := a1) h9 (by rw [nl9]; omega) (by rw [nl9]; decide)
        obtain ⟨σa, ea⟩ : ∃ σa, σa = si (si σ (9 + 1) (3 * t) a1) 9 1 (gi σ 9 1 + (1 : Int32)) := ⟨_, rfl⟩
        have a9 : (gi σa 9 1).toInt = ((3 * t + 1 : Nat) : Int) := by rw [ea, gi_si_eq, i_inc (by omega)]; omega
        have k2 := comN (a := a2) a9 (by rw [nl9]; omega) (by rw [nl9]; decide)
        obtain ⟨σb, eb⟩ : ∃ σb, σb = si (si σa (9 + 1) (3 * t + 1) a2) 9 1 (gi σa 9 1 + (1 : Int32)) := ⟨_, rfl⟩
        have b9 : (gi σb 9 1).toInt = ((3 * t + 2 : Nat) : Int) := by rw [eb, gi_si_eq, i_inc (by omega)]; omega
        have k3 := comN (a := a3) b9 (by rw [nl9]; omega) (by rw [nl9]; decide)
        obtain ⟨σd, ed⟩ : ∃ σd, σd = si (si σb (9 + 1) (3 * t + 2) a3) 9 1 (gi σb 9 1 + (1 : Int32)) := ⟨_, rfl⟩
        have dd9 : (gi σd 9 1).toInt = ((3 * t + 3 : Nat) : Int) := by rw [ed, gi_si_eq, i_inc (by omega)]; omega
        rw [if_pos (show 3 * t < 18 by omega), if_pos rfl, k1, ← ea, fl_e, k2, ← eb, fl_e, k3, ← ed, fl_e] at h1
        obtain ⟨-, rfl⟩ := Prod.mk.inj h1
        have g74 : ∀ k, gi σd 74 k = gi σ 74 k := fun k => by rw [ed, gi_si_ne (Or.inl (by decide)), gi_si_ne (Or.inl (by decide)), eb, gi_si_ne (Or.inl (by decide)), gi_si_ne (Or.inl (by decide)), ea, gi_si_ne (Or.inl (by decide)), gi_si_ne (Or.inl (by decide))]
        have go : ∀ id k, id ≠ 9 → id ≠ 10 → gi σd id k = gi σ id k := fun id k a b => by rw [ed, gi_si_ne (Or.inl a), gi_si_ne (Or.inl b), eb, gi_si_ne (Or.inl a), gi_si_ne (Or.inl b), ea, gi_si_ne (Or.inl a), gi_si_ne (Or.inl b)]
        have r10 : ∀ k, gi σd 10 k = if k = 3 * t + 2 then a3 else if k = 3 * t + 1 then a2 else if k = 3 * t then a1 else gi σ 10 k := by
          intro k
          rw [ed, gi_si_ne (Or.inl (by decide)), gi_si, eb, gi_si_ne (Or.inl (by decide)), gi_si, ea, gi_si_ne (Or.inl (by decide)), gi_si]
          simp only [true_and]
        have tc := cl_eq (x := gi σ 74 41) (by omega)
        have en : (gi σd 74 41).toNatClampNeg = t := by rw [g74]; omega
        rw [F_mIs (n := n) (by rw [g74]; exact hn) (by omega), fb_e, if_pos c, if_neg (show ¬ (1 : Int32) = 0 by decide), F_in, fb_e, if_pos (show (0 : Int32).toInt ≤ a2.toInt ∧ a2.toInt ≤ (30 : Int32).toInt from ⟨by show (0 : Int) ≤ _; omega, by show _ ≤ (30 : Int); omega⟩), if_neg (show ¬ (1 : Int32) = 0 by decide), F_in, fb_e, if_pos (show (0 : Int32).toInt ≤ a3.toInt ∧ a3.toInt ≤ (9999 : Int32).toInt from ⟨by show (0 : Int) ≤ _; omega, d3⟩), if_neg (show ¬ (1 : Int32) = 0 by decide), if_neg (show ¬ gi σd 74 41 = (6 : Int32) from i_ne (show _ ≠ (6 : Int) by rw [g74]; omega)), fl_e, gi_si_ne (show 74 ≠ 142 ∨ _ from Or.inl (by decide)), fl_e, gi_si_ne (show 74 ≠ 143 ∨ _ from Or.inl (by decide)), gi_si_ne (show 74 ≠ 142 ∨ _ from Or.inl (by decide)), fl_e, en, fl_e] at h2
        rw [← (Prod.mk.inj h2).2]
        obtain ⟨s1, s2, s3, s4⟩ := s
        obtain ⟨τ, eτ⟩ : ∃ τ, τ = si (si (si (si σd 142 t a1) 143 t a2) 144 t a3) 74 41 (gi (si (si (si σd 142 t a1) 143 t a2) 144 t a3) 74 41 + (1 : Int32)) := ⟨_, rfl⟩
        rw [← eτ]
        have e : ∀ id k, id ≠ 9 → id ≠ 10 → id ≠ 74 → (id < 142 ∨ 144 < id) → gi τ id k = gi σ id k := fun id k a b c' d => by
          rw [eτ, gi_si_ne (Or.inl c'), gi_si_ne (Or.inl (by omega)), gi_si_ne (Or.inl (by omega)), gi_si_ne (Or.inl (by omega))]; exact go id k a b
        refine ⟨fun k hk => ?_, SNr_eq (by rw [e 17 1 (by decide) (by decide) (by decide) (by decide)]; exact Int.le_refl _) (e _ _ (by decide) (by decide) (by decide) (by decide)) (fun k => e _ k (by decide) (by decide) (by decide) (by decide)) (fun a k x y => e a k (by omega) (by omega) (by omega) (by omega)) s2, PNr_eq (e _ _ (by decide) (by decide) (by decide) (by decide)) (fun k => e _ k (by decide) (by decide) (by decide) (by decide)) (fun k => e _ k (by decide) (by decide) (by decide) (by decide)) s3, PNr_eq (e _ _ (by decide) (by decide) (by decide) (by decide)) (fun k => e _ k (by decide) (by decide) (by decide) (by decide)) (fun k => e _ k (by decide) (by decide) (by decide) (by decide)) s4⟩
        have t9 : gi τ (1 + 8) 1 = gi σd 9 1 := by rw [eτ, gi_si_ne (Or.inl (by decide)), gi_si_ne (Or.inl (by decide)), gi_si_ne (Or.inl (by decide)), gi_si_ne (Or.inl (by decide))]
        have t10 : ∀ j, gi τ (1 + 9) j = gi σd 10 j := fun j => by rw [eτ, gi_si_ne (Or.inl (by decide)), gi_si_ne (Or.inl (by decide)), gi_si_ne (Or.inl (by decide)), gi_si_ne (Or.inl (by decide))]
        have w0 : ∀ j, gi τ 142 j = if j = t then a1 else gi σ 142 j := fun j => by rw [eτ, gi_si_ne (Or.inl (by decide)), gi_si_ne (Or.inl (by decide)), gi_si_ne (Or.inl (by decide)), gi_si, go 142 j (by decide) (by decide)]; simp only [true_and]
        have w1 : ∀ j, gi τ (142 + 1) j = if j = t then a2 else gi σ (142 + 1) j := fun j => by rw [eτ, gi_si_ne (Or.inl (by decide)), gi_si_ne (Or.inl (by decide)), gi_si, gi_si_ne (Or.inl (by decide)), go 143 j (by decide) (by decide)]; simp
        have w2 : ∀ j, gi τ (142 + 2) j = if j = t then a3 else gi σ (142 + 2) j := fun j => by rw [eτ, gi_si_ne (Or.inl (by decide)), gi_si, gi_si_ne (Or.inl (by decide)), gi_si_ne (Or.inl (by decide)), go 144 j (by decide) (by decide)]; simp
        have h11 : gi τ 1 1 = gi σ 1 1 := e 1 1 (by decide) (by decide) (by decide) (by decide)
        rw [t9, dd9] at hk
        rw [t10, t10, t10, r10, r10, r10, w0, w1, w2, h11]
        by_cases z : k = t
        · subst z
          rw [if_neg (show ¬ 3 * k = 3 * k + 2 by omega), if_neg (show ¬ 3 * k = 3 * k + 1 by omega), if_pos (show 3 * k = 3 * k from rfl), if_neg (show ¬ 3 * k + 1 = 3 * k + 2 by omega), if_pos (show 3 * k + 1 = 3 * k + 1 from rfl), if_pos (show 3 * k + 2 = 3 * k + 2 from rfl), if_pos rfl, if_pos rfl, if_pos rfl]
          exact ⟨⟨rfl, rfl, rfl⟩, ⟨c.1, by omega⟩, ⟨by omega, by omega⟩⟩
        · rw [if_neg (show ¬ 3 * k = 3 * t + 2 by omega), if_neg (show ¬ 3 * k = 3 * t + 1 by omega), if_neg (show ¬ 3 * k = 3 * t by omega), if_neg (show ¬ 3 * k + 1 = 3 * t + 2 by omega), if_neg (show ¬ 3 * k + 1 = 3 * t + 1 by omega), if_neg (show ¬ 3 * k + 1 = 3 * t by omega), if_neg (show ¬ 3 * k + 2 = 3 * t + 2 by omega), if_neg (show ¬ 3 * k + 2 = 3 * t + 1 by omega), if_neg (show ¬ 3 * k + 2 = 3 * t by omega), if_neg z, if_neg z, if_neg z]
          exact s1 k (by show _ < (gi σ 9 1).toInt; omega)
    · rw [if_neg (i_nle (show (9999 : Int32).toInt < _ by show (9999 : Int) < _; omega))] at h1; exact bad _ (by omega) h1
  · rw [if_neg c, if_pos rfl] at h1
    obtain ⟨-, rfl⟩ := Prod.mk.inj h1
    rw [F_mIs hn (by omega), fb_e, if_neg c, if_pos rfl] at h2
    rw [← (Prod.mk.inj h2).2]; exact s
theorem SNP_plan {V : Vx} {a1 r1 r2 : Int32} {σ σ1 σ2 : Sg} (q : REL σ) (hI : INV V σ) (s : SNP σ) (h1 : F_X11_plan a1 σ = (r1, σ1)) (h2 : F_X12_plan a1 σ1 = (r2, σ2)) : SNP σ2 := by
  obtain ⟨⟨-, -, -, c45, -⟩, -⟩ := q
  have b45 := MI_f45 hI.2.1
  obtain ⟨t, ht⟩ : ∃ t : Nat, (gi σ 74 45).toInt = (t : Int) := ⟨(gi σ 74 45).toInt.toNat, by omega⟩
  have h9 : (gi σ 11 1).toInt = (t : Int) := by omega
  unfold F_X11_plan at h1
  unfold F_X12_plan at h2
  by_cases e0 : a1 = (-1 : Int32)
  · rw [if_pos e0, fl_e] at h1 h2
    rw [← (Prod.mk.inj h2).2, ← (Prod.mk.inj h1).2]
    obtain ⟨s1, s2, s3, s4⟩ := s
    have e : ∀ id k, id ≠ 11 → id ≠ 74 → gi (si (si σ 11 1 (0 : Int32)) 74 45 (0 : Int32)) id k = gi σ id k := fun id k a b => by rw [gi_si_ne (Or.inl b), gi_si_ne (Or.inl a)]
    refine ⟨SNr_eq (by rw [e 1 1 (by decide) (by decide)]; exact Int.le_refl _) (e _ _ (by decide) (by decide)) (fun k => e _ k (by decide) (by decide)) (fun a k x y => e a k (by omega) (by omega)) s1, SNr_eq (by rw [e 17 1 (by decide) (by decide)]; exact Int.le_refl _) (e _ _ (by decide) (by decide)) (fun k => e _ k (by decide) (by decide)) (fun a k x y => e a k (by omega) (by omega)) s2, fun k hk => ?_, PNr_eq (e _ _ (by decide) (by decide)) (fun k => e _ k (by decide) (by decide)) (fun k => e _ k (by decide) (by decide)) s4⟩
    exfalso
    rw [show (1 + 10 : Nat) = 11 from rfl, gi_si_ne (Or.inl (by decide)), gi_si_eq] at hk
    have hk : (k : Int) < 0 := hk
    omega
  rw [if_neg e0] at h1 h2
  rw [F_in, fb_e] at h2
  by_cases c : 0 ≤ a1.toInt ∧ a1.toInt ≤ 2
  · rw [if_neg (i_nlt0 c.1), if_pos (show a1 ≤ (2 : Int32) from i_le (show a1.toInt ≤ (2 : Int32).toInt from c.2)), fulN h9 (by rw [nl11]; decide), fb_e, nl11] at h1
    rw [if_pos (show (0 : Int32).toInt ≤ a1.toInt ∧ a1.toInt ≤ (2 : Int32).toInt from c), if_neg (show ¬ (1 : Int32) = 0 by decide)] at h2
    by_cases u : t = 10
    · rw [if_neg (show ¬ t < 10 by omega), if_neg (show ¬ (1 : Int32) = 0 by decide)] at h1
      obtain ⟨-, rfl⟩ := Prod.mk.inj h1
      rw [if_pos (i_eq (show _ = (10 : Int) by omega))] at h2
      rw [← (Prod.mk.inj h2).2]; exact s
    · have k1 := comN (a := a1) h9 (by rw [nl11]; omega) (by rw [nl11]; decide)
      obtain ⟨σa, ea⟩ : ∃ σa, σa = si (si σ (11 + 1) t a1) 11 1 (gi σ 11 1 + (1 : Int32)) := ⟨_, rfl⟩
      rw [if_pos (show t < 10 by omega), if_pos rfl, k1, ← ea, fl_e] at h1
      obtain ⟨-, rfl⟩ := Prod.mk.inj h1
      have go : ∀ id k, id ≠ 11 → id ≠ 12 → gi σa id k = gi σ id k := fun id k a b => by rw [ea, gi_si_ne (Or.inl a), gi_si_ne (Or.inl b)]
      have tc := cl_eq (x := gi σ 74 45) (by omega)
      have en : (gi σa 74 45).toNatClampNeg = t := by rw [go 74 45 (by decide) (by decide)]; omega
      rw [if_neg (show ¬ gi σa 74 45 = (10 : Int32) from i_ne (show _ ≠ (10 : Int) by rw [go 74 45 (by decide) (by decide)]; omega)), fl_e, en, fl_e] at h2
      rw [← (Prod.mk.inj h2).2]
      obtain ⟨s1, s2, s3, s4⟩ := s
      obtain ⟨τ, eτ⟩ : ∃ τ, τ = si (si σa 147 t a1) 74 45 (gi (si σa 147 t a1) 74 45 + (1 : Int32)) := ⟨_, rfl⟩
      rw [← eτ]
      have e : ∀ id k, id ≠ 11 → id ≠ 12 → id ≠ 74 → id ≠ 147 → gi τ id k = gi σ id k := fun id k a b c' d => by
        rw [eτ, gi_si_ne (Or.inl c'), gi_si_ne (Or.inl d)]; exact go id k a b
      refine ⟨SNr_eq (by rw [e 1 1 (by decide) (by decide) (by decide) (by decide)]; exact Int.le_refl _) (e _ _ (by decide) (by decide) (by decide) (by decide)) (fun k => e _ k (by decide) (by decide) (by decide) (by decide)) (fun a k x y => e a k (by omega) (by omega) (by omega) (by omega)) s1, SNr_eq (by rw [e 17 1 (by decide) (by decide) (by decide) (by decide)]; exact Int.le_refl _) (e _ _ (by decide) (by decide) (by decide) (by decide)) (fun k => e _ k (by decide) (by decide) (by decide) (by decide)) (fun a k x y => e a k (by omega) (by omega) (by omega) (by omega)) s2, fun k hk => ?_, PNr_eq (e _ _ (by decide) (by decide) (by decide) (by decide)) (fun k => e _ k (by decide) (by decide) (by decide) (by decide)) (fun k => e _ k (by decide) (by decide) (by decide) (by decide)) s4⟩
      have t9 : (gi τ (1 + 10) 1).toInt = (t : Int) + 1 := by rw [eτ, gi_si_ne (Or.inl (by decide)), gi_si_ne (Or.inl (by decide)), ea, gi_si_eq, i_inc (by omega)]; omega
      have t12 : gi τ (1 + 11) k = if k = t then a1 else gi σ 12 k := by rw [eτ, gi_si_ne (Or.inl (by decide)), gi_si_ne (Or.inl (by decide)), ea, gi_si_ne (Or.inl (by decide)), gi_si]; simp
      have w0 : gi τ 147 k = if k = t then a1 else gi σ 147 k := by rw [eτ, gi_si_ne (Or.inl (by decide)), gi_si, go 147 k (by decide) (by decide)]; simp
      rw [t9] at hk
      rw [t12, w0]
      by_cases z : k = t
      · rw [if_pos z, if_pos z]; exact ⟨rfl, c⟩
      · rw [if_neg z, if_neg z]
        exact s3 k (by show _ < (gi σ 11 1).toInt; omega)
  · rw [if_neg (show ¬ ((0 : Int32).toInt ≤ a1.toInt ∧ a1.toInt ≤ (2 : Int32).toInt) from c), if_pos rfl] at h2
    have h1 : ((-1 : Int32), σ) = (r1, σ1) := by
      by_cases d : a1.toInt < 0
      · rw [if_pos (i_lt0 d)] at h1; exact h1
      · rw [if_neg (i_nlt0 (by omega)), if_neg (i_nle (show (2 : Int32).toInt < _ by show (2 : Int) < _; omega))] at h1; exact h1
    obtain ⟨-, rfl⟩ := Prod.mk.inj h1
    rw [← (Prod.mk.inj h2).2]; exact s
