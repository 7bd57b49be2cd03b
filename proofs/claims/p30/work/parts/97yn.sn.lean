/-! what is told by hand, alike in both: seen ones, plans -/
noncomputable def SNr (σ : Sg) (c w : Nat) : Prop := ∀ k : Nat, 3 * (k : Int) < (gi σ (c + 8) 1).toInt → (gi σ (c + 9) (3 * k) = gi σ w k ∧ gi σ (c + 9) (3 * k + 1) = gi σ (w + 1) k ∧ gi σ (c + 9) (3 * k + 2) = gi σ (w + 2) k) ∧ (0 ≤ (gi σ w k).toInt ∧ (gi σ w k).toInt < (gi σ c 1).toInt) ∧ (0 ≤ (gi σ (w + 1) k).toInt ∧ (gi σ (w + 1) k).toInt ≤ 30)
noncomputable def PNr (σ : Sg) (c w : Nat) : Prop := ∀ k : Nat, (k : Int) < (gi σ (c + 10) 1).toInt → gi σ (c + 11) k = gi σ w k ∧ (0 ≤ (gi σ w k).toInt ∧ (gi σ w k).toInt ≤ 2)
noncomputable def SNP (σ : Sg) : Prop := SNr σ 1 142 ∧ SNr σ 17 164 ∧ PNr σ 1 147 ∧ PNr σ 17 167
theorem SNr_eq {σ σ' : Sg} {c w : Nat} (hc : (gi σ c 1).toInt ≤ (gi σ' c 1).toInt) (e8 : gi σ' (c + 8) 1 = gi σ (c + 8) 1) (e9 : ∀ k, gi σ' (c + 9) k = gi σ (c + 9) k) (e : ∀ a k, w ≤ a → a ≤ w + 2 → gi σ' a k = gi σ a k) (h : SNr σ c w) : SNr σ' c w := by
  intro k hk
  rw [e8] at hk
  obtain ⟨h1, h2, h3⟩ := h k hk
  rw [e9, e9, e9, e w k (by omega) (by omega), e (w + 1) k (by omega) (by omega), e (w + 2) k (by omega) (by omega)]
  exact ⟨h1, ⟨h2.1, by omega⟩, h3⟩
theorem PNr_eq {σ σ' : Sg} {c w : Nat} (e8 : gi σ' (c + 10) 1 = gi σ (c + 10) 1) (e9 : ∀ k, gi σ' (c + 11) k = gi σ (c + 11) k) (e : ∀ k, gi σ' w k = gi σ w k) (h : PNr σ c w) : PNr σ' c w := by
  intro k hk
  rw [e8] at hk
  rw [e9, e]
  exact h k hk
noncomputable def Rsn (id k : Nat) : Prop := (9 ≤ id ∧ id ≤ 12) ∨ (25 ≤ id ∧ id ≤ 28) ∨ (142 ≤ id ∧ id ≤ 144) ∨ id = 147 ∨ (164 ≤ id ∧ id ≤ 167) ∨ ((id = 1 ∨ id = 17) ∧ k = 1)
theorem SNP_eq {σ σ' : Sg} (e : ∀ id k, Rsn id k → gi σ' id k = gi σ id k) (h : SNP σ) : SNP σ' := by
  obtain ⟨h1, h2, h3, h4⟩ := h
  exact ⟨SNr_eq (by rw [e 1 1 (by unfold Rsn; omega)]; exact Int.le_refl _) (e _ _ (by unfold Rsn; omega)) (fun k => e _ k (by unfold Rsn; omega)) (fun a k x y => e a k (by unfold Rsn; omega)) h1, SNr_eq (by rw [e 17 1 (by unfold Rsn; omega)]; exact Int.le_refl _) (e _ _ (by unfold Rsn; omega)) (fun k => e _ k (by unfold Rsn; omega)) (fun a k x y => e a k (by unfold Rsn; omega)) h2, PNr_eq (e _ _ (by unfold Rsn; omega)) (fun k => e _ k (by unfold Rsn; omega)) (fun k => e _ k (by unfold Rsn; omega)) h3, PNr_eq (e _ _ (by unfold Rsn; omega)) (fun k => e _ k (by unfold Rsn; omega)) (fun k => e _ k (by unfold Rsn; omega)) h4⟩
theorem SNP_x {S : Nat → Prop} {F : Nat → Nat → Prop} {σ σ' : Sg} (f : FX S F σ σ') (h : ∀ id k, Rsn id k → ¬ S id ∧ ¬ F id k) (q : SNP σ) : SNP σ' := SNP_eq (fun id k a => f.1 id k (h id k a).1 (h id k a).2) q
theorem SNP_m {S F : List Nat} {σ σ' : Sg} (f : Fr S F σ σ') (h : ∀ id ∈ S, 74 ≤ id ∧ (id < 142 ∨ 144 < id) ∧ id ≠ 147 ∧ (id < 164 ∨ 167 < id) ∧ id < 1000) (q : SNP σ) : SNP σ' :=
  SNP_eq (fun id k a => congrFun (f.1 id (fun z => by have := h id z; unfold Rsn at a; omega)).1 k) q
theorem SNP_mower {σ σ1 σ2 : Sg} (h : (gi σ 1 1).toInt ≤ (gi σ1 1 1).toInt) (f : FX (fun id => id = 2 ∨ id = 3 ∨ id = 5 ∨ 2000 ≤ id) (fun id k => id = 1 ∧ (k = 1 ∨ k = 3)) σ σ1) (g : Fr [74, 103, 104, 105, 106, 107, 108, 109, 110] [0, 2] σ1 σ2) (q : SNP σ) : SNP σ2 := by
  have e : ∀ id k, Rsn id k → id ≠ 1 → gi σ2 id k = gi σ id k := fun id k a b => by
    rw [show gi σ2 id k = gi σ1 id k from congrFun (g.1 id (by intro z; simp at z; unfold Rsn at a; omega)).1 k]
    exact f.1 id k (by intro z; (try dsimp only at z); unfold Rsn at a; omega) (by intro z; (try dsimp only at z); omega)
  have e1 : gi σ2 1 1 = gi σ1 1 1 := congrFun (g.1 1 (by decide +kernel)).1 1
  obtain ⟨h1, h2, h3, h4⟩ := q
  exact ⟨SNr_eq (by rw [e1]; exact h) (e _ _ (by unfold Rsn; omega) (by decide +kernel)) (fun k => e _ k (by unfold Rsn; omega) (by decide +kernel)) (fun a k x y => e a k (by unfold Rsn; omega) (by omega)) h1, SNr_eq (by rw [e 17 1 (by unfold Rsn; omega) (by decide +kernel)]; exact Int.le_refl _) (e _ _ (by unfold Rsn; omega) (by decide +kernel)) (fun k => e _ k (by unfold Rsn; omega) (by decide +kernel)) (fun a k x y => e a k (by unfold Rsn; omega) (by omega)) h2, PNr_eq (e _ _ (by unfold Rsn; omega) (by decide +kernel)) (fun k => e _ k (by unfold Rsn; omega) (by decide +kernel)) (fun k => e _ k (by unfold Rsn; omega) (by decide +kernel)) h3, PNr_eq (e _ _ (by unfold Rsn; omega) (by decide +kernel)) (fun k => e _ k (by unfold Rsn; omega) (by decide +kernel)) (fun k => e _ k (by unfold Rsn; omega) (by decide +kernel)) h4⟩
theorem comN {c s : Nat} {a : Int32} {σ : Sg} (hs : (gi σ c 1).toInt = (s : Int)) (hn : s < nl c) (hl : nl c ≤ 1000) : F_X5_comes c a σ = si (si σ (c + 1) s a) c 1 (gi σ c 1 + (1 : Int32)) := by
  have ex := cl_eq (x := gi σ c 1) (by omega)
  have en : (Int32.ofNat (nl c)).toInt = (nl c : Int) := Int32.toInt_ofNat_of_lt (by omega)
  unfold F_X5_comes
  rw [if_neg (i_nle (by omega)), fl_e, fl_e, show (gi σ c 1).toNatClampNeg = s from by omega, gi_si_ne (Or.inl (by omega))]
theorem fulN {c s : Nat} {σ : Sg} (hs : (gi σ c 1).toInt = (s : Int)) (hl : nl c ≤ 1000) : F_X5_isFull c σ = (if s < nl c then (0 : Int32) else 1, σ) := by
  have en : (Int32.ofNat (nl c)).toInt = (nl c : Int) := Int32.toInt_ofNat_of_lt (by omega)
  unfold F_X5_isFull
  by_cases q : s < nl c
  · rw [if_pos (i_lt (by omega)), if_pos q]
  · rw [if_neg (i_nlt (by omega)), if_neg q]
theorem nl9 : nl 9 = 18 := by decide +kernel
theorem nl11 : nl 11 = 10 := by decide +kernel
theorem SNP_see {V : Vx} {a1 a2 a3 r1 r2 : Int32} {σ σ1 σ2 : Sg} (q : REL σ) (hI : INV V σ) (s : SNP σ) (h1 : F_X11_see a1 a2 a3 σ = (r1, σ1)) (h2 : F_X12_see a1 a2 a3 σ1 = (r2, σ2)) : SNP σ2 := by
  obtain ⟨⟨c1, -, -, -, -, -, -, -, -, c41, -⟩, -⟩ := q
  have hm := MI_f0 hI.2.1
  have b41 := MI_f41 hI.2.1
  obtain ⟨n, hn⟩ : ∃ n : Nat, (gi σ 74 0).toInt = (n : Int) := ⟨(gi σ 74 0).toInt.toNat, by omega⟩
  obtain ⟨t, ht⟩ : ∃ t : Nat, (gi σ 74 41).toInt = (t : Int) := ⟨(gi σ 74 41).toInt.toNat, by omega⟩
  have h9 : (gi σ 9 1).toInt = ((3 * t : Nat) : Int) := by omega
  unfold F_X11_see at h1
  unfold F_X12_see at h2
  by_cases e0 : a1 = (-1 : Int32)
  · rw [if_pos e0, fl_e] at h1 h2
    rw [← (Prod.mk.inj h2).2, ← (Prod.mk.inj h1).2]
    obtain ⟨s1, s2, s3, s4⟩ := s
    have e : ∀ id k, id ≠ 9 → id ≠ 74 → gi (si (si σ 9 1 (0 : Int32)) 74 41 (0 : Int32)) id k = gi σ id k := fun id k a b => by rw [gi_si_ne (Or.inl b), gi_si_ne (Or.inl a)]
    refine ⟨fun k hk => ?_, SNr_eq (by rw [e 17 1 (by decide +kernel) (by decide +kernel)]; exact Int.le_refl _) (e _ _ (by decide +kernel) (by decide +kernel)) (fun k => e _ k (by decide +kernel) (by decide +kernel)) (fun a k x y => e a k (by omega) (by omega)) s2, PNr_eq (e _ _ (by decide +kernel) (by decide +kernel)) (fun k => e _ k (by decide +kernel) (by decide +kernel)) (fun k => e _ k (by decide +kernel) (by decide +kernel)) s3, PNr_eq (e _ _ (by decide +kernel) (by decide +kernel)) (fun k => e _ k (by decide +kernel) (by decide +kernel)) (fun k => e _ k (by decide +kernel) (by decide +kernel)) s4⟩
    exfalso
    rw [show (1 + 8 : Nat) = 9 from rfl, gi_si_ne (Or.inl (by decide +kernel)), gi_si_eq] at hk
    have hk : 3 * (k : Int) < 0 := hk
    omega
  rw [if_neg e0] at h1 h2
  rw [isMC (n := n) (by omega), fb_e] at h1
  by_cases c : 0 ≤ a1.toInt ∧ a1.toInt < (n : Int)
  · rw [if_pos c, if_neg (show ¬ (1 : Int32) = 0 by decide +kernel)] at h1
    have bad : ∀ r : Int32, ¬ ((0 ≤ a2.toInt ∧ a2.toInt ≤ 30) ∧ (0 ≤ a3.toInt ∧ a3.toInt ≤ 9999)) → (r, σ) = (r1, σ1) → SNP σ2 := by
      intro r hb h1
      obtain ⟨-, rfl⟩ := Prod.mk.inj h1
      rw [F_mIs hn (by omega), fb_e, if_pos c, if_neg (show ¬ (1 : Int32) = 0 by decide +kernel), F_in, fb_e] at h2
      by_cases d : (0 : Int32).toInt ≤ a2.toInt ∧ a2.toInt ≤ (30 : Int32).toInt
      · rw [if_pos d, if_neg (show ¬ (1 : Int32) = 0 by decide +kernel), F_in, fb_e, if_neg (show ¬ ((0 : Int32).toInt ≤ a3.toInt ∧ a3.toInt ≤ (9999 : Int32).toInt) from fun z => hb ⟨d, z⟩), if_pos rfl] at h2
        rw [← (Prod.mk.inj h2).2]; exact s
      · rw [if_neg d, if_pos rfl] at h2
        rw [← (Prod.mk.inj h2).2]; exact s
    by_cases d0 : a2.toInt < 0
    · rw [if_pos (i_lt0 d0)] at h1; exact bad _ (by omega) h1
    rw [if_neg (i_nlt0 (by omega))] at h1
    by_cases d1 : 30 < a2.toInt
    · rw [if_pos (i_lt (show (30 : Int32).toInt < _ from d1))] at h1; exact bad _ (by omega) h1
    rw [if_neg (i_nlt (show _ ≤ (30 : Int32).toInt by show _ ≤ (30 : Int); omega))] at h1
    by_cases d2 : a3.toInt < 0
    · rw [if_pos (i_lt0 d2)] at h1; exact bad _ (by omega) h1
    rw [if_neg (i_nlt0 (by omega))] at h1
    by_cases d3 : a3.toInt ≤ 9999
    · rw [if_pos (i_le (show _ ≤ (9999 : Int32).toInt from d3)), fulN h9 (by rw [nl9]; decide), fb_e, nl9] at h1
      by_cases u : t = 6
      · rw [if_neg (show ¬ 3 * t < 18 by omega), if_neg (show ¬ (1 : Int32) = 0 by decide +kernel)] at h1
        obtain ⟨-, rfl⟩ := Prod.mk.inj h1
        rw [F_mIs hn (by omega), fb_e, if_pos c, if_neg (show ¬ (1 : Int32) = 0 by decide +kernel), F_in, fb_e, if_pos (show (0 : Int32).toInt ≤ a2.toInt ∧ a2.toInt ≤ (30 : Int32).toInt from ⟨by show (0 : Int) ≤ _; omega, by show _ ≤ (30 : Int); omega⟩), if_neg (show ¬ (1 : Int32) = 0 by decide +kernel), F_in, fb_e, if_pos (show (0 : Int32).toInt ≤ a3.toInt ∧ a3.toInt ≤ (9999 : Int32).toInt from ⟨by show (0 : Int) ≤ _; omega, d3⟩), if_neg (show ¬ (1 : Int32) = 0 by decide +kernel), if_pos (i_eq (show _ = (6 : Int) by omega))] at h2
        rw [← (Prod.mk.inj h2).2]; exact s
      · have k1 := comN (a := a1) h9 (by rw [nl9]; omega) (by rw [nl9]; decide)
        obtain ⟨σa, ea⟩ : ∃ σa, σa = si (si σ (9 + 1) (3 * t) a1) 9 1 (gi σ 9 1 + (1 : Int32)) := ⟨_, rfl⟩
        have a9 : (gi σa 9 1).toInt = ((3 * t + 1 : Nat) : Int) := by rw [ea, gi_si_eq, i_inc (by omega)]; omega
        have k2 := comN (a := a2) a9 (by rw [nl9]; omega) (by rw [nl9]; decide)
        obtain ⟨σb, eb⟩ : ∃ σb, σb = si (si σa (9 + 1) (3 * t + 1) a2) 9 1 (gi σa 9 1 + (1 : Int32)) := ⟨_, rfl⟩
        have b9 : (gi σb 9 1).toInt = ((3 * t + 2 : Nat) : Int) := by rw [eb, gi_si_eq, i_inc (by omega)]; omega
        have k3 := comN (a := a3) b9 (by rw [nl9]; omega) (by rw [nl9]; decide)
        obtain ⟨σd, ed⟩ : ∃ σd, σd = si (si σb (9 + 1) (3 * t + 2) a3) 9 1 (gi σb 9 1 + (1 : Int32)) := ⟨_, rfl⟩
        have dd9 : (gi σd 9 1).toInt = ((3 * t + 3 : Nat) : Int) := by rw [ed, gi_si_eq, i_inc (by omega)]; omega
        rw [if_pos (show 3 * t < 18 by omega), if_pos rfl, k1, ← ea, fl_e, k2, ← eb, fl_e, k3, ← ed, fl_e] at h1
        obtain ⟨-, rfl⟩ := Prod.mk.inj h1
        have g74 : ∀ k, gi σd 74 k = gi σ 74 k := fun k => by rw [ed, gi_si_ne (Or.inl (by decide +kernel)), gi_si_ne (Or.inl (by decide +kernel)), eb, gi_si_ne (Or.inl (by decide +kernel)), gi_si_ne (Or.inl (by decide +kernel)), ea, gi_si_ne (Or.inl (by decide +kernel)), gi_si_ne (Or.inl (by decide +kernel))]
        have go : ∀ id k, id ≠ 9 → id ≠ 10 → gi σd id k = gi σ id k := fun id k a b => by rw [ed, gi_si_ne (Or.inl a), gi_si_ne (Or.inl b), eb, gi_si_ne (Or.inl a), gi_si_ne (Or.inl b), ea, gi_si_ne (Or.inl a), gi_si_ne (Or.inl b)]
        have r10 : ∀ k, gi σd 10 k = if k = 3 * t + 2 then a3 else if k = 3 * t + 1 then a2 else if k = 3 * t then a1 else gi σ 10 k := by
          intro k
          rw [ed, gi_si_ne (Or.inl (by decide +kernel)), gi_si, eb, gi_si_ne (Or.inl (by decide +kernel)), gi_si, ea, gi_si_ne (Or.inl (by decide +kernel)), gi_si]
          simp only [true_and]
        have tc := cl_eq (x := gi σ 74 41) (by omega)
        have en : (gi σd 74 41).toNatClampNeg = t := by rw [g74]; omega
        rw [F_mIs (n := n) (by rw [g74]; exact hn) (by omega), fb_e, if_pos c, if_neg (show ¬ (1 : Int32) = 0 by decide +kernel), F_in, fb_e, if_pos (show (0 : Int32).toInt ≤ a2.toInt ∧ a2.toInt ≤ (30 : Int32).toInt from ⟨by show (0 : Int) ≤ _; omega, by show _ ≤ (30 : Int); omega⟩), if_neg (show ¬ (1 : Int32) = 0 by decide +kernel), F_in, fb_e, if_pos (show (0 : Int32).toInt ≤ a3.toInt ∧ a3.toInt ≤ (9999 : Int32).toInt from ⟨by show (0 : Int) ≤ _; omega, d3⟩), if_neg (show ¬ (1 : Int32) = 0 by decide +kernel), if_neg (show ¬ gi σd 74 41 = (6 : Int32) from i_ne (show _ ≠ (6 : Int) by rw [g74]; omega)), fl_e, gi_si_ne (show 74 ≠ 142 ∨ _ from Or.inl (by decide +kernel)), fl_e, gi_si_ne (show 74 ≠ 143 ∨ _ from Or.inl (by decide +kernel)), gi_si_ne (show 74 ≠ 142 ∨ _ from Or.inl (by decide +kernel)), fl_e, en, fl_e] at h2
        rw [← (Prod.mk.inj h2).2]
        obtain ⟨s1, s2, s3, s4⟩ := s
        obtain ⟨τ, eτ⟩ : ∃ τ, τ = si (si (si (si σd 142 t a1) 143 t a2) 144 t a3) 74 41 (gi (si (si (si σd 142 t a1) 143 t a2) 144 t a3) 74 41 + (1 : Int32)) := ⟨_, rfl⟩
        rw [← eτ]
        have e : ∀ id k, id ≠ 9 → id ≠ 10 → id ≠ 74 → (id < 142 ∨ 144 < id) → gi τ id k = gi σ id k := fun id k a b c' d => by
          rw [eτ, gi_si_ne (Or.inl c'), gi_si_ne (Or.inl (by omega)), gi_si_ne (Or.inl (by omega)), gi_si_ne (Or.inl (by omega))]; exact go id k a b
        refine ⟨fun k hk => ?_, SNr_eq (by rw [e 17 1 (by decide +kernel) (by decide +kernel) (by decide +kernel) (by decide +kernel)]; exact Int.le_refl _) (e _ _ (by decide +kernel) (by decide +kernel) (by decide +kernel) (by decide +kernel)) (fun k => e _ k (by decide +kernel) (by decide +kernel) (by decide +kernel) (by decide +kernel)) (fun a k x y => e a k (by omega) (by omega) (by omega) (by omega)) s2, PNr_eq (e _ _ (by decide +kernel) (by decide +kernel) (by decide +kernel) (by decide +kernel)) (fun k => e _ k (by decide +kernel) (by decide +kernel) (by decide +kernel) (by decide +kernel)) (fun k => e _ k (by decide +kernel) (by decide +kernel) (by decide +kernel) (by decide +kernel)) s3, PNr_eq (e _ _ (by decide +kernel) (by decide +kernel) (by decide +kernel) (by decide +kernel)) (fun k => e _ k (by decide +kernel) (by decide +kernel) (by decide +kernel) (by decide +kernel)) (fun k => e _ k (by decide +kernel) (by decide +kernel) (by decide +kernel) (by decide +kernel)) s4⟩
        have t9 : gi τ (1 + 8) 1 = gi σd 9 1 := by rw [eτ, gi_si_ne (Or.inl (by decide +kernel)), gi_si_ne (Or.inl (by decide +kernel)), gi_si_ne (Or.inl (by decide +kernel)), gi_si_ne (Or.inl (by decide +kernel))]
        have t10 : ∀ j, gi τ (1 + 9) j = gi σd 10 j := fun j => by rw [eτ, gi_si_ne (Or.inl (by decide +kernel)), gi_si_ne (Or.inl (by decide +kernel)), gi_si_ne (Or.inl (by decide +kernel)), gi_si_ne (Or.inl (by decide +kernel))]
        have w0 : ∀ j, gi τ 142 j = if j = t then a1 else gi σ 142 j := fun j => by rw [eτ, gi_si_ne (Or.inl (by decide +kernel)), gi_si_ne (Or.inl (by decide +kernel)), gi_si_ne (Or.inl (by decide +kernel)), gi_si, go 142 j (by decide +kernel) (by decide +kernel)]; simp only [true_and]
        have w1 : ∀ j, gi τ (142 + 1) j = if j = t then a2 else gi σ (142 + 1) j := fun j => by rw [eτ, gi_si_ne (Or.inl (by decide +kernel)), gi_si_ne (Or.inl (by decide +kernel)), gi_si, gi_si_ne (Or.inl (by decide +kernel)), go 143 j (by decide +kernel) (by decide +kernel)]; simp
        have w2 : ∀ j, gi τ (142 + 2) j = if j = t then a3 else gi σ (142 + 2) j := fun j => by rw [eτ, gi_si_ne (Or.inl (by decide +kernel)), gi_si, gi_si_ne (Or.inl (by decide +kernel)), gi_si_ne (Or.inl (by decide +kernel)), go 144 j (by decide +kernel) (by decide +kernel)]; simp
        have h11 : gi τ 1 1 = gi σ 1 1 := e 1 1 (by decide +kernel) (by decide +kernel) (by decide +kernel) (by decide +kernel)
        rw [t9, dd9] at hk
        rw [t10, t10, t10, r10, r10, r10, w0, w1, w2, h11]
        by_cases z : k = t
        · subst z
          rw [if_neg (show ¬ 3 * k = 3 * k + 2 by omega), if_neg (show ¬ 3 * k = 3 * k + 1 by omega), if_pos (show 3 * k = 3 * k from rfl), if_neg (show ¬ 3 * k + 1 = 3 * k + 2 by omega), if_pos (show 3 * k + 1 = 3 * k + 1 from rfl), if_pos (show 3 * k + 2 = 3 * k + 2 from rfl), if_pos rfl, if_pos rfl, if_pos rfl]
          exact ⟨⟨rfl, rfl, rfl⟩, ⟨c.1, by omega⟩, ⟨by omega, by omega⟩⟩
        · rw [if_neg (show ¬ 3 * k = 3 * t + 2 by omega), if_neg (show ¬ 3 * k = 3 * t + 1 by omega), if_neg (show ¬ 3 * k = 3 * t by omega), if_neg (show ¬ 3 * k + 1 = 3 * t + 2 by omega), if_neg (show ¬ 3 * k + 1 = 3 * t + 1 by omega), if_neg (show ¬ 3 * k + 1 = 3 * t by omega), if_neg (show ¬ 3 * k + 2 = 3 * t + 2 by omega), if_neg (show ¬ 3 * k + 2 = 3 * t + 1 by omega), if_neg (show ¬ 3 * k + 2 = 3 * t by omega), if_neg z, if_neg z, if_neg z]
          exact s1 k (by show _ < (gi σ 9 1).toInt; omega)
    · rw [if_neg (i_nle (show (9999 : Int32).toInt < _ by show (9999 : Int) < _; omega))] at h1; exact bad _ (by omega) h1
  · rw [if_neg c, if_pos rfl] at h1
    obtain ⟨-, rfl⟩ := Prod.mk.inj h1
    rw [F_mIs hn (by omega), fb_e, if_neg c, if_pos rfl] at h2
    rw [← (Prod.mk.inj h2).2]; exact s
theorem SNP_plan {V : Vx} {a1 r1 r2 : Int32} {σ σ1 σ2 : Sg} (q : REL σ) (hI : INV V σ) (s : SNP σ) (h1 : F_X11_plan a1 σ = (r1, σ1)) (h2 : F_X12_plan a1 σ1 = (r2, σ2)) : SNP σ2 := by
  obtain ⟨⟨-, -, -, c45, -⟩, -⟩ := q
  have b45 := MI_f45 hI.2.1
  obtain ⟨t, ht⟩ : ∃ t : Nat, (gi σ 74 45).toInt = (t : Int) := ⟨(gi σ 74 45).toInt.toNat, by omega⟩
  have h9 : (gi σ 11 1).toInt = (t : Int) := by omega
  unfold F_X11_plan at h1
  unfold F_X12_plan at h2
  by_cases e0 : a1 = (-1 : Int32)
  · rw [if_pos e0, fl_e] at h1 h2
    rw [← (Prod.mk.inj h2).2, ← (Prod.mk.inj h1).2]
    obtain ⟨s1, s2, s3, s4⟩ := s
    have e : ∀ id k, id ≠ 11 → id ≠ 74 → gi (si (si σ 11 1 (0 : Int32)) 74 45 (0 : Int32)) id k = gi σ id k := fun id k a b => by rw [gi_si_ne (Or.inl b), gi_si_ne (Or.inl a)]
    refine ⟨SNr_eq (by rw [e 1 1 (by decide +kernel) (by decide +kernel)]; exact Int.le_refl _) (e _ _ (by decide +kernel) (by decide +kernel)) (fun k => e _ k (by decide +kernel) (by decide +kernel)) (fun a k x y => e a k (by omega) (by omega)) s1, SNr_eq (by rw [e 17 1 (by decide +kernel) (by decide +kernel)]; exact Int.le_refl _) (e _ _ (by decide +kernel) (by decide +kernel)) (fun k => e _ k (by decide +kernel) (by decide +kernel)) (fun a k x y => e a k (by omega) (by omega)) s2, fun k hk => ?_, PNr_eq (e _ _ (by decide +kernel) (by decide +kernel)) (fun k => e _ k (by decide +kernel) (by decide +kernel)) (fun k => e _ k (by decide +kernel) (by decide +kernel)) s4⟩
    exfalso
    rw [show (1 + 10 : Nat) = 11 from rfl, gi_si_ne (Or.inl (by decide +kernel)), gi_si_eq] at hk
    have hk : (k : Int) < 0 := hk
    omega
  rw [if_neg e0] at h1 h2
  rw [F_in, fb_e] at h2
  by_cases c : 0 ≤ a1.toInt ∧ a1.toInt ≤ 2
  · rw [if_neg (i_nlt0 c.1), if_pos (show a1 ≤ (2 : Int32) from i_le (show a1.toInt ≤ (2 : Int32).toInt from c.2)), fulN h9 (by rw [nl11]; decide), fb_e, nl11] at h1
    rw [if_pos (show (0 : Int32).toInt ≤ a1.toInt ∧ a1.toInt ≤ (2 : Int32).toInt from c), if_neg (show ¬ (1 : Int32) = 0 by decide +kernel)] at h2
    by_cases u : t = 10
    · rw [if_neg (show ¬ t < 10 by omega), if_neg (show ¬ (1 : Int32) = 0 by decide +kernel)] at h1
      obtain ⟨-, rfl⟩ := Prod.mk.inj h1
      rw [if_pos (i_eq (show _ = (10 : Int) by omega))] at h2
      rw [← (Prod.mk.inj h2).2]; exact s
    · have k1 := comN (a := a1) h9 (by rw [nl11]; omega) (by rw [nl11]; decide)
      obtain ⟨σa, ea⟩ : ∃ σa, σa = si (si σ (11 + 1) t a1) 11 1 (gi σ 11 1 + (1 : Int32)) := ⟨_, rfl⟩
      rw [if_pos (show t < 10 by omega), if_pos rfl, k1, ← ea, fl_e] at h1
      obtain ⟨-, rfl⟩ := Prod.mk.inj h1
      have go : ∀ id k, id ≠ 11 → id ≠ 12 → gi σa id k = gi σ id k := fun id k a b => by rw [ea, gi_si_ne (Or.inl a), gi_si_ne (Or.inl b)]
      have tc := cl_eq (x := gi σ 74 45) (by omega)
      have en : (gi σa 74 45).toNatClampNeg = t := by rw [go 74 45 (by decide +kernel) (by decide +kernel)]; omega
      rw [if_neg (show ¬ gi σa 74 45 = (10 : Int32) from i_ne (show _ ≠ (10 : Int) by rw [go 74 45 (by decide +kernel) (by decide +kernel)]; omega)), fl_e, en, fl_e] at h2
      rw [← (Prod.mk.inj h2).2]
      obtain ⟨s1, s2, s3, s4⟩ := s
      obtain ⟨τ, eτ⟩ : ∃ τ, τ = si (si σa 147 t a1) 74 45 (gi (si σa 147 t a1) 74 45 + (1 : Int32)) := ⟨_, rfl⟩
      rw [← eτ]
      have e : ∀ id k, id ≠ 11 → id ≠ 12 → id ≠ 74 → id ≠ 147 → gi τ id k = gi σ id k := fun id k a b c' d => by
        rw [eτ, gi_si_ne (Or.inl c'), gi_si_ne (Or.inl d)]; exact go id k a b
      refine ⟨SNr_eq (by rw [e 1 1 (by decide +kernel) (by decide +kernel) (by decide +kernel) (by decide +kernel)]; exact Int.le_refl _) (e _ _ (by decide +kernel) (by decide +kernel) (by decide +kernel) (by decide +kernel)) (fun k => e _ k (by decide +kernel) (by decide +kernel) (by decide +kernel) (by decide +kernel)) (fun a k x y => e a k (by omega) (by omega) (by omega) (by omega)) s1, SNr_eq (by rw [e 17 1 (by decide +kernel) (by decide +kernel) (by decide +kernel) (by decide +kernel)]; exact Int.le_refl _) (e _ _ (by decide +kernel) (by decide +kernel) (by decide +kernel) (by decide +kernel)) (fun k => e _ k (by decide +kernel) (by decide +kernel) (by decide +kernel) (by decide +kernel)) (fun a k x y => e a k (by omega) (by omega) (by omega) (by omega)) s2, fun k hk => ?_, PNr_eq (e _ _ (by decide +kernel) (by decide +kernel) (by decide +kernel) (by decide +kernel)) (fun k => e _ k (by decide +kernel) (by decide +kernel) (by decide +kernel) (by decide +kernel)) (fun k => e _ k (by decide +kernel) (by decide +kernel) (by decide +kernel) (by decide +kernel)) s4⟩
      have t9 : (gi τ (1 + 10) 1).toInt = (t : Int) + 1 := by rw [eτ, gi_si_ne (Or.inl (by decide +kernel)), gi_si_ne (Or.inl (by decide +kernel)), ea, gi_si_eq, i_inc (by omega)]; omega
      have t12 : gi τ (1 + 11) k = if k = t then a1 else gi σ 12 k := by rw [eτ, gi_si_ne (Or.inl (by decide +kernel)), gi_si_ne (Or.inl (by decide +kernel)), ea, gi_si_ne (Or.inl (by decide +kernel)), gi_si]; simp
      have w0 : gi τ 147 k = if k = t then a1 else gi σ 147 k := by rw [eτ, gi_si_ne (Or.inl (by decide +kernel)), gi_si, go 147 k (by decide +kernel) (by decide +kernel)]; simp
      rw [t9] at hk
      rw [t12, w0]
      by_cases z : k = t
      · rw [if_pos z, if_pos z]; exact ⟨rfl, c⟩
      · rw [if_neg z, if_neg z]
        exact s3 k (by show _ < (gi σ 11 1).toInt; omega)
  · rw [if_neg (show ¬ ((0 : Int32).toInt ≤ a1.toInt ∧ a1.toInt ≤ (2 : Int32).toInt) from c), if_pos rfl] at h2
    have h1 : ((-1 : Int32), σ) = (r1, σ1) := by
      by_cases d : a1.toInt < 0
      · rw [if_pos (i_lt0 d)] at h1; exact h1
      · rw [if_neg (i_nlt0 (by omega)), if_neg (i_nle (show (2 : Int32).toInt < _ by show (2 : Int) < _; omega))] at h1; exact h1
    obtain ⟨-, rfl⟩ := Prod.mk.inj h1
    rw [← (Prod.mk.inj h2).2]; exact s
/-! planned, who: the same answers -/
theorem plnLC {n P : Nat} {S : Stc} {f : Nat → Int} {σ0 : Sg} (sb : SBd n S) (hP : P ≤ 10) (h11 : (gi σ0 11 1).toInt = (P : Int)) (hf : ∀ k, k < P → (gi σ0 12 k).toInt = f k ∧ 0 ≤ f k ∧ f k ≤ 2) : ∀ (j i N : Nat) (x1 : Int32) (D : Dyn) (K : Int) (σ : Sg), i + j = P → j < N → x1.toInt = (i : Int) → K + (j : Int) ≤ 100000 → DBd n K D → CS 33 n S σ → CDy 33 n D σ → FXv σ0 σ →
    Rt (LF_X11_planned N x1 σ) (fun r _ => r.toInt = tot n (aPln S f j i D)) := by
  have n6 := sb.1
  intro j
  induction j with
  | zero =>
    intro i N x1 D K σ hj hN hx hK db cs cd fv
    obtain ⟨N, rfl⟩ : ∃ i, N = i + 1 := ⟨N - 1, by omega⟩
    have e11 : gi σ 11 1 = gi σ0 11 1 := FXv_i fv (by omega)
    show Rt (LB_X11_planned_13 (LF_X11_planned N) x1 σ) _
    unfold LB_X11_planned_13
    refine Rt_t (i_le (by rw [e11]; omega)) ?_
    obtain ⟨r, e, v⟩ := allC (c0 := 33) n6 cs.1 db cd
    refine Rt_fe e ?_
    exact Rt_p v
  | succ j ih =>
    intro i N x1 D K σ hj hN hx hK db cs cd fv
    obtain ⟨N, rfl⟩ : ∃ i, N = i + 1 := ⟨N - 1, by omega⟩
    have ex := cl_eq (x := x1) (by omega)
    have ep : x1.toNatClampNeg = i := by omega
    have e11 : gi σ 11 1 = gi σ0 11 1 := FXv_i fv (by omega)
    have e12 : gi σ 12 i = gi σ0 12 i := FXv_i fv (by omega)
    obtain ⟨hfi, f0, f2⟩ := hf i (by omega)
    show Rt (LB_X11_planned_13 (LF_X11_planned N) x1 σ) (fun r _ => r.toInt = tot n (aPln S f j (i + 1) (aPl1 S (f i) D)))
    unfold LB_X11_planned_13
    refine Rt_f (i_nle (by rw [e11]; omega)) ?_
    rw [ep]
    refine Rt_fl (fun v5 e5 => ?_)
    have h5 : v5.toInt = f i := by rw [e5, e12]; exact hfi
    have go : ∀ (σ5 : Sg) (D' : Dyn) (v : Int32), D' = aPl1 S (f i) D → v = x1 + 1 → FXn 33 n σ σ5 → CDy 33 n D' σ5 → Rt (LF_X11_planned N v σ5) (fun r _ => r.toInt = tot n (aPln S f j (i + 1) (aPl1 S (f i) D))) := by
      intro σ5 D' v e hv g5 d5
      rw [e] at d5
      exact ih (i + 1) N v _ (K + 1) σ5 (by omega) (by omega) (by rw [hv, i_inc (by omega)]; omega) (by omega) (aPl1_b sb db) (CS_m (by decide +kernel) g5 cs) d5 (FXv_tr fv (FXn_v g5))
    by_cases c0 : f i = 0
    · refine Rt_t (i_eq (show _ = (0 : Int) by omega)) ?_
      refine Rt_fb (minC (c0 := 33) (by decide +kernel) sb db (by omega) cs cd) (fun r6 σ5 ⟨_, d5, g5⟩ => ?_)
      exact Rt_fl (fun v e => go σ5 _ v (by unfold aPl1; rw [if_pos c0]) e g5 d5)
    · refine Rt_f (i_ne (show _ ≠ (0 : Int) by omega)) ?_
      by_cases c1 : f i = 1
      · refine Rt_t (i_eq (show _ = (1 : Int) by omega)) ?_
        refine Rt_fs (whetC (c0 := 33) (by decide +kernel) sb db (by omega) cs cd) (fun σ5 ⟨d5, g5⟩ => ?_)
        exact Rt_fl (fun v e => go σ5 _ v (by unfold aPl1; rw [if_neg c0, if_pos c1]) e g5 d5)
      · refine Rt_f (i_ne (show _ ≠ (1 : Int) by omega)) ?_
        refine Rt_fs (restC (c0 := 33) (j := 1) (by decide +kernel) sb db (by omega) rfl (by decide +kernel) cs cd) (fun σ5 ⟨d5, g5⟩ => ?_)
        exact Rt_fl (fun v e => go σ5 (aPas 1 3 D) v (by unfold aPl1; rw [if_neg c0, if_neg c1, if_pos (show f i = 2 by omega)]) e g5 d5)
theorem plannedC {n P : Nat} {K : Int} {S : Stc} {D : Dyn} {f : Nat → Int} {σ : Sg} (h : HCl n K S D σ) (hP : P ≤ 10) (h11 : (gi σ 11 1).toInt = (P : Int)) (hf : ∀ k, k < P → (gi σ 12 k).toInt = f k ∧ 0 ≤ f k ∧ f k ≤ 2) : Rt (F_X11_planned σ) (fun r _ => r.toInt = tot n (aPln S f P 0 D)) := by
  unfold F_X11_planned
  exact Rt_fs (HCl_bec h) (fun σ1 ⟨s1, d1, f1⟩ => plnLC h.1 hP h11 hf P 0 90 (0 : Int32) D K σ1 (by omega) (by omega) rfl (by have := h.2.2.1; omega) h.2.1 s1 d1 f1)
theorem A_planned {V : Vx} {r1 r2 : Int32} {σ σ1 σ2 : Sg} (q : RELM σ) (s : SNP σ) (hI : INV V σ) (f : MA σ σ1) (h1 : F_X11_planned σ = (r1, σ1)) (h2 : F_X12_planned σ1 = (r2, σ2)) : r1 = r2 := by
  obtain ⟨n, S, D, c, m, si⟩ := HXC q hI f
  obtain ⟨⟨-, -, -, c45, -⟩, -⟩ := q.1.1
  have b45 := MI_f45 hI.2.1
  obtain ⟨t, ht⟩ : ∃ t : Nat, (gi σ 74 45).toInt = (t : Int) := ⟨(gi σ 74 45).toInt.toNat, by omega⟩
  have h11 : (gi σ 11 1).toInt = (t : Int) := by omega
  have A := Rt_of (plannedC (f := fun k => (gi σ 147 k).toInt) c (by omega) h11 (fun k hk => by
    have z := s.2.2.1 k (by show (k : Int) < (gi σ 11 1).toInt; omega)
    exact ⟨congrArg Int32.toInt z.1, z.2⟩)) h1
  have B := Rt_of (plannedM (f := fun k => (gi σ 147 k).toInt) m (show t ≤ 10 by omega) (by rw [f 74 (by decide +kernel) (by decide +kernel) 45]; exact ht) (fun k hk => by rw [f 147 (by decide +kernel) (by decide +kernel) k])) h2
  exact i_eq (A.trans B.1.symm)
/-! who -/
theorem i_pl {x c : Int32} {k : Int} (hc : c.toInt = k) (h1 : -2147483648 ≤ x.toInt + k) (h2 : x.toInt + k ≤ 2147483647) : (x + c).toInt = x.toInt + k := by rw [i_add (by omega) (by omega), hc]
noncomputable def CSe (T : Nat) (wo wn : Nat → Nat) (sa : Nat → Int) (σ : Sg) : Prop := (gi σ 9 1).toInt = 3 * (T : Int) ∧ ∀ k, k < T → (gi σ 10 (3 * k)).toInt = (wo k : Int) ∧ (gi σ 10 (3 * k + 1)).toInt = (wn k : Int) ∧ (gi σ 10 (3 * k + 2)).toInt = sa k
noncomputable def MSe (T : Nat) (wo wn : Nat → Nat) (sa : Nat → Int) (σ : Sg) : Prop := (gi σ 74 41).toInt = (T : Int) ∧ ∀ k, k < T → (gi σ 142 k).toInt = (wo k : Int) ∧ (gi σ 143 k).toInt = (wn k : Int) ∧ (gi σ 144 k).toInt = sa k
theorem CSe_eq {T : Nat} {wo wn : Nat → Nat} {sa : Nat → Int} {σ σ' : Sg} (e : ∀ id k, id = 9 ∨ id = 10 → gi σ' id k = gi σ id k) (h : CSe T wo wn sa σ) : CSe T wo wn sa σ' :=
  ⟨by rw [e 9 1 (Or.inl rfl)]; exact h.1, fun k hk => by rw [e 10 _ (Or.inr rfl), e 10 _ (Or.inr rfl), e 10 _ (Or.inr rfl)]; exact h.2 k hk⟩
theorem MSe_eq {T : Nat} {wo wn : Nat → Nat} {sa : Nat → Int} {σ σ' : Sg} (e : ∀ id k, (id = 74 ∧ k = 41) ∨ (142 ≤ id ∧ id ≤ 144) → gi σ' id k = gi σ id k) (h : MSe T wo wn sa σ) : MSe T wo wn sa σ' :=
  ⟨by rw [e 74 41 (by omega)]; exact h.1, fun k hk => by rw [e 142 _ (by omega), e 143 _ (by omega), e 144 _ (by omega)]; exact h.2 k hk⟩
theorem seLC {n T t : Nat} {wo wn : Nat → Nat} {sa : Nat → Int} {D : Dyn} {σ : Sg} {x1 : Int32} (hT : T ≤ 6) (he : CSe T wo wn sa σ) (hw : ∀ k, k < T → wo k < n) (hd : CDy 33 n D σ) (h1 : x1.toInt = (t : Int)) : ∀ (j k N : Nat) (x3 : Int32), j + k = T → j < N → x3.toInt = 3 * (k : Int) →
    Rt (LF_X11_seenIsSo N x1 x3 σ) (fun r σ' => σ' = σ ∧ ((r = 1 ∧ ∀ i, k ≤ i → i < T → wn i = t → D_at D (wo i) = sa i) ∨ (r = 0 ∧ ¬ ∀ i, k ≤ i → i < T → wn i = t → D_at D (wo i) = sa i))) := by
  intro j
  induction j with
  | zero =>
    intro k N x3 hj hN h3
    obtain ⟨N, rfl⟩ : ∃ i, N = i + 1 := ⟨N - 1, by omega⟩
    have e2 : (x3 + (2 : Int32)).toInt = x3.toInt + 2 := i_pl rfl (by omega) (by omega)
    have h9 := he.1
    show Rt (LB_X11_seenIsSo_13 (LF_X11_seenIsSo N) x1 x3 σ) _
    unfold LB_X11_seenIsSo_13
    refine Rt_t (i_le (by omega)) ?_
    exact ⟨rfl, Or.inl ⟨rfl, fun i a b => by omega⟩⟩
  | succ j ih =>
    intro k N x3 hj hN h3
    obtain ⟨N, rfl⟩ : ∃ i, N = i + 1 := ⟨N - 1, by omega⟩
    have e1 : (x3 + (1 : Int32)).toInt = x3.toInt + 1 := i_pl rfl (by omega) (by omega)
    have e2 : (x3 + (2 : Int32)).toInt = x3.toInt + 2 := i_pl rfl (by omega) (by omega)
    have e3 : (x3 + (3 : Int32)).toInt = x3.toInt + 3 := i_pl rfl (by omega) (by omega)
    have c0 := cl_eq (x := x3) (by omega)
    have c1 := cl_eq (x := x3 + (1 : Int32)) (by omega)
    have c2 := cl_eq (x := x3 + (2 : Int32)) (by omega)
    have n0 : x3.toNatClampNeg = 3 * k := by omega
    have n1 : (x3 + (1 : Int32)).toNatClampNeg = 3 * k + 1 := by omega
    have n2 : (x3 + (2 : Int32)).toNatClampNeg = 3 * k + 2 := by omega
    have h9 := he.1
    obtain ⟨a0, a1, a2⟩ := he.2 k (by omega)
    have cw := cl_eq (x := gi σ 10 (3 * k)) (by omega)
    have ha : (gi σ 36 (wo k)).toInt = D_at D (wo k) := hd.2.1 (wo k) (hw k (by omega))
    show Rt (LB_X11_seenIsSo_13 (LF_X11_seenIsSo N) x1 x3 σ) _
    unfold LB_X11_seenIsSo_13
    refine Rt_f (i_nle (by omega)) ?_
    rw [n0, n1, n2, show (gi σ 10 (3 * k)).toNatClampNeg = wo k from by omega]
    by_cases c : wn k = t
    · refine Rt_t (i_eq (by omega)) ?_
      by_cases q : D_at D (wo k) = sa k
      · refine Rt_t (i_eq (by omega)) ?_
        refine Rt_fl (fun v e => ?_)
        refine Rt_w (ih (k + 1) N v (by omega) (by omega) (by rw [e, e3]; omega)) ?_
        intro r σ' ⟨z, p⟩
        refine ⟨z, ?_⟩
        rcases p with ⟨r1, p⟩ | ⟨r0, p⟩
        · exact Or.inl ⟨r1, fun i h1 h2 h3 => by
            by_cases y : i = k
            · rw [y]; exact q
            · exact p i (by omega) h2 h3⟩
        · exact Or.inr ⟨r0, fun z' => p (fun i h1 h2 h3 => z' i (by omega) h2 h3)⟩
      · refine Rt_f (i_ne (by omega)) ?_
        exact ⟨rfl, Or.inr ⟨rfl, fun z => q (z k (Nat.le_refl _) (by omega) c)⟩⟩
    · refine Rt_f (i_ne (by omega)) ?_
      refine Rt_fl (fun v e => ?_)
      refine Rt_w (ih (k + 1) N v (by omega) (by omega) (by rw [e, e3]; omega)) ?_
      intro r σ' ⟨z, p⟩
      refine ⟨z, ?_⟩
      rcases p with ⟨r1, p⟩ | ⟨r0, p⟩
      · exact Or.inl ⟨r1, fun i h1 h2 h3 => by
          by_cases y : i = k
          · rw [y] at h3; exact absurd h3 c
          · exact p i (by omega) h2 h3⟩
      · exact Or.inr ⟨r0, fun z' => p (fun i h1 h2 h3 => z' i (by omega) h2 h3)⟩
theorem asLC {n T : Nat} {S : Stc} {wo wn : Nat → Nat} {sa : Nat → Int} (sb : SBd n S) (hT : T ≤ 6) (hw : ∀ k, k < T → wo k < n) : ∀ (j t N : Nat) (x1 : Int32) (D : Dyn) (K : Int) (σ : Sg), j + t = 31 → j < N → x1.toInt = (t : Int) → K + (j : Int) ≤ 100000 → DBd n K D → CS 33 n S σ → CDy 33 n D σ → CSe T wo wn sa σ →
    Rt (LF_X11_allSeenIsSo N x1 σ) (fun r σ' => FXn 33 n σ σ' ∧ ((r = 1 ∧ ∀ i, i < j → ∀ k, k < T → wn k = t + i → D_at (aMins S i D) (wo k) = sa k) ∨ (r = 0 ∧ ¬ ∀ i, i < j → ∀ k, k < T → wn k = t + i → D_at (aMins S i D) (wo k) = sa k))) := by
  intro j
  induction j with
  | zero =>
    intro t N x1 D K σ hj hN h1 hK db cs cd ce
    obtain ⟨N, rfl⟩ : ∃ i, N = i + 1 := ⟨N - 1, by omega⟩
    show Rt (LB_X11_allSeenIsSo_2 (LF_X11_allSeenIsSo N) x1 σ) _
    unfold LB_X11_allSeenIsSo_2
    refine Rt_t (i_lt (show (30 : Int) < _ by omega)) ?_
    exact ⟨FX_rf, Or.inl ⟨rfl, fun i h => absurd h (Nat.not_lt_zero i)⟩⟩
  | succ j ih =>
    intro t N x1 D K σ hj hN h1 hK db cs cd ce
    obtain ⟨N, rfl⟩ : ∃ i, N = i + 1 := ⟨N - 1, by omega⟩
    show Rt (LB_X11_allSeenIsSo_2 (LF_X11_allSeenIsSo N) x1 σ) _
    unfold LB_X11_allSeenIsSo_2
    refine Rt_f (i_nlt (show _ ≤ (30 : Int) by omega)) ?_
    refine Rt_fb (x := F_X11_seenIsSo x1 σ) (seLC hT ce hw cd h1 T 0 90 (0 : Int32) (by omega) (by omega) rfl) (fun r3 σ2 ⟨z, p⟩ => ?_)
    subst z
    rcases p with ⟨r1, p⟩ | ⟨r0, p⟩
    · refine Rt_f (by rw [r1]; decide) ?_
      refine Rt_fb (minC (c0 := 33) (by decide +kernel) sb db (by omega) cs cd) (fun r6 σ5 ⟨_, d5, f5⟩ => ?_)
      refine Rt_fl (fun v e => ?_)
      refine Rt_w (ih (t + 1) N v (aMin S D).2 (K + 1) σ5 (by omega) (by omega) (by rw [e, i_inc (by omega)]; omega) (by omega) (aMin_b sb db) (CS_m (by decide +kernel) f5 cs) d5 (CSe_eq (fun id k a => FXn_i f5 (by omega)) ce)) ?_
      intro r σ' ⟨f, q⟩
      refine ⟨FXn_tr f5 f, ?_⟩
      rcases q with ⟨a, q⟩ | ⟨a, q⟩
      · refine Or.inl ⟨a, fun i hi k hk e => ?_⟩
        cases i with
        | zero => exact p k (Nat.zero_le _) hk e
        | succ i => exact q i (by omega) k hk (by omega)
      · exact Or.inr ⟨a, fun z => q (fun i hi k hk e => z (i + 1) (by omega) k hk (by omega))⟩
    · refine Rt_t r0 ?_
      exact ⟨FX_rf, Or.inr ⟨rfl, fun z => p (fun i _ hi e => z 0 (by omega) i hi e)⟩⟩
noncomputable def SQ (S : Stc) (T : Nat) (wo wn : Nat → Nat) (sa : Nat → Int) (D : Dyn) (m : Nat) : Prop := ∀ k, k < T → D_at (aMins S (wn k) (aStp m 3 D)) (wo k) = sa k
noncomputable def WhR (P : Nat → Prop) : Nat → Nat → Int32 → Int32 → Prop
  | 0, _, x, r => r = x
  | i + 1, k, x, r => (P k ∧ WhR P i (k + 1) (x ||| ((1 : Int32) <<< (nI k &&& 31))) r) ∨ (¬ P k ∧ WhR P i (k + 1) x r)
theorem WhR_un {P : Nat → Prop} : ∀ (i k : Nat) (x r r' : Int32), WhR P i k x r → WhR P i k x r' → r = r' := by
  intro i
  induction i with
  | zero => intro k x r r' a b; exact Eq.trans a (Eq.symm b)
  | succ i ih =>
    intro k x r r' a b
    rcases a with ⟨p, a⟩ | ⟨p, a⟩ <;> rcases b with ⟨p', b⟩ | ⟨p', b⟩
    · exact ih _ _ _ _ a b
    · exact absurd p p'
    · exact absurd p' p
    · exact ih _ _ _ _ a b
theorem whoLC {n T : Nat} {K : Int} {S : Stc} {D : Dyn} {wo wn : Nat → Nat} {sa : Nat → Int} (hT : T ≤ 6) (hw : ∀ k, k < T → wo k < n ∧ wn k ≤ 30) : ∀ (i k N : Nat) (x1 x2 : Int32) (σ : Sg), i + k = n → i < N → x2.toInt = (k : Int) → HCl n K S D σ → CSe T wo wn sa σ →
    Rt (LF_X11_who N x1 x2 σ) (fun r _ => WhR (SQ S T wo wn sa D) i k x1 r) := by
  intro i
  induction i with
  | zero =>
    intro k N x1 x2 σ hi hN h2 h ce
    have hn := h.2.2.2.2.2.1.1
    obtain ⟨N, rfl⟩ : ∃ i, N = i + 1 := ⟨N - 1, by omega⟩
    show Rt (LB_X11_who_4 (LF_X11_who N) x1 x2 σ) _
    unfold LB_X11_who_4
    refine Rt_t (i_le (by omega)) ?_
    exact (rfl : x1 = x1)
  | succ i ih =>
    intro k N x1 x2 σ hi hN h2 h ce
    have hn := h.2.2.2.2.2.1.1
    have n6 := h.1.1
    have hK := h.2.2.1
    obtain ⟨N, rfl⟩ : ∃ i, N = i + 1 := ⟨N - 1, by omega⟩
    have ex := cl_eq (x := x2) (by omega)
    have ep : x2.toNatClampNeg = k := by omega
    have e3 : x2 = nI k := by rw [← ep]; exact nI_ofI (by omega)
    show Rt (LB_X11_who_4 (LF_X11_who N) x1 x2 σ) _
    unfold LB_X11_who_4
    refine Rt_f (i_nle (by omega)) ?_
    rw [ep]
    refine Rt_fs (HCl_bec h) (fun σ2 ⟨s2, d2, f2⟩ => ?_)
    refine Rt_fl (fun σ5 e5 => ?_)
    have s5 : CS 33 n S σ5 := by rw [e5]; exact CS_39 s2
    have d5 : CDy 33 n (aStp k 3 D) σ5 := by rw [e5]; exact stpC h.2.1 (by omega) rfl (by decide +kernel) d2
    have db5 := aStp_b h.2.1 (h.2.2.2.2.1 k (by omega)) (show k < n by omega) (show (0 : Int) ≤ 3 ∧ (3 : Int) ≤ 20 by decide +kernel)
    have f5 : FXv σ2 σ5 := by rw [e5]; exact FX_si FX_rf (Or.inl (Or.inl (by decide +kernel)))
    have ce5 : CSe T wo wn sa σ5 := CSe_eq (fun id j a => by rw [FXv_i f5 (by omega), FXv_i f2 (by omega)]) ce
    refine Rt_fb (x := F_X11_allSeenIsSo σ5) (asLC h.1 hT (fun m hm => (hw m hm).1) 31 0 90 (0 : Int32) (aStp k 3 D) K σ5 (by decide +kernel) (by decide +kernel) rfl (by omega) db5 s5 d5 ce5) (fun r7 σ6 ⟨f6, p⟩ => ?_)
    have fa : FXv σ σ6 := FXv_tr f2 (FXv_tr f5 (FXn_v f6))
    have ce6 : CSe T wo wn sa σ6 := CSe_eq (fun id j a => FXv_i fa (by omega)) ce
    have v8 : (x2 + 1).toInt = ((k + 1 : Nat) : Int) := by rw [i_inc (by omega)]; omega
    rcases p with ⟨r1, p⟩ | ⟨r0, p⟩
    · refine Rt_f (by rw [r1]; decide) ?_
      refine Rt_fl (fun v10 e10 => Rt_fl (fun v11 e11 => ?_))
      refine Rt_w (ih (k + 1) N v10 v11 σ6 (by omega) (by omega) (by rw [e11]; exact v8) (HCl_v fa h) ce6) (fun r _ q => Or.inl ⟨fun m hm => p (wn m) (by have := hw m hm; omega) m hm (by omega), ?_⟩)
      rw [e10, e3] at q; exact q
    · refine Rt_t r0 ?_
      refine Rt_fl (fun v11 e11 => ?_)
      refine Rt_w (ih (k + 1) N x1 v11 σ6 (by omega) (by omega) (by rw [e11]; exact v8) (HCl_v fa h) ce6) (fun r _ q => Or.inr ⟨fun z => p (fun i' hi' m hm e => ?_), q⟩)
      have ei : i' = wn m := by omega
      rw [ei]; exact z m hm
theorem isSM {n T m k : Nat} {K : Int} {S : Stc} {D : Dyn} {wo wn : Nat → Nat} {sa : Nat → Int} {σ : Sg} {x1 x2 : Int32} (hw : ∀ k, k < T → wo k < n ∧ wn k ≤ 30) (h : HMo n K S D σ) (me : MSe T wo wn sa σ) (h1 : x1.toInt = (m : Int)) (hm : m < n) (h2 : x2.toInt = (k : Int)) (hk : k < T) :
    Rt (F_X12_isSeen x1 x2 σ) (fun r σ' => FXz σ σ' ∧ ((r = 1 ∧ D_at (aMins S (wn k) (aStp m 3 D)) (wo k) = sa k) ∨ (r = 0 ∧ ¬ D_at (aMins S (wn k) (aStp m 3 D)) (wo k) = sa k))) := by
  obtain ⟨sb, db, hK, hr, h99, hs, hd⟩ := h
  have n6 := sb.1
  have ex := cl_eq (x := x1) (by omega)
  have ey := cl_eq (x := x2) (by omega)
  obtain ⟨m0, m1, m2⟩ := me.2 k hk
  obtain ⟨w1, w2⟩ := hw k hk
  unfold F_X12_isSeen
  rw [show x1.toNatClampNeg = m from by omega, show x2.toNatClampNeg = k from by omega]
  refine Rt_fs (savM n6 hs hd) (fun σ1 ⟨k1, s1, d1, t1, z1⟩ => ?_)
  refine Rt_fl (fun σ4 e4 => ?_)
  have k4 : KP σ σ4 := by rw [e4]; exact KP_si (by omega) k1
  have s4 : MS n S σ4 := by rw [e4]; exact MS_si (by omega) s1
  have d4 : MDy n (aStp m 3 D) σ4 := by rw [e4]; exact stpM db hm rfl (by decide +kernel) d1
  have db4 := aStp_b db (h99 m hm) hm (show (0 : Int) ≤ 3 ∧ (3 : Int) ≤ 20 by decide +kernel)
  have g4 : ∀ id j, 142 ≤ id ∧ id ≤ 144 → gi σ4 id j = gi σ id j := fun id j a => by rw [e4, gi_si_ne (Or.inl (by omega)), FXz_i z1 (by omega)]
  refine Rt_fs (gosM9 (j := wn k) sb (by rw [g4 143 k (by decide +kernel)]; exact m1) (by omega) (by omega) db4 s4.2 d4) (fun σ6 ⟨d6, f6, _⟩ => ?_)
  have g6 : ∀ id j, 142 ≤ id ∧ id ≤ 144 → gi σ6 id j = gi σ id j := fun id j a => by rw [FXq_i f6 (by omega), g4 id j a]
  have cw := cl_eq (x := gi σ 142 k) (by omega)
  have ha : (gi σ6 105 (wo k)).toInt = D_at (aMins S (wn k) (aStp m 3 D)) (wo k) := d6.2.1 (wo k) w1
  rw [g6 142 k (by decide +kernel), g6 144 k (by decide +kernel), show (gi σ 142 k).toNatClampNeg = wo k from by omega]
  by_cases q : D_at (aMins S (wn k) (aStp m 3 D)) (wo k) = sa k
  · refine Rt_t (i_eq (by omega)) ?_
    exact Rt_fs (putM (KP_q n6 k4 f6)) (fun σ5 z5 => Rt_p ⟨z5, Or.inl ⟨rfl, q⟩⟩)
  · refine Rt_f (i_ne (by omega)) ?_
    exact Rt_fs (putM (KP_q n6 k4 f6)) (fun σ5 z5 => Rt_p ⟨z5, Or.inr ⟨rfl, q⟩⟩)
theorem whoIn {n T m M0 : Nat} {K : Int} {S : Stc} {D : Dyn} {wo wn : Nat → Nat} {sa : Nat → Int} {σ0 : Sg} {x1 x2 : Int32} {Q : Int32 → Sg → Prop} (hw : ∀ k, k < T → wo k < n ∧ wn k ≤ 30) (hT : T ≤ 6) (h0 : HMo n K S D σ0) (me0 : MSe T wo wn sa σ0) (h2 : x2.toInt = (m : Int)) (hm : m < n)
    (ct : ∀ (N : Nat) (σ : Sg) (x3 : Int32), M0 ≤ N → FXz σ0 σ → ((x3 = 1 ∧ SQ S T wo wn sa D m) ∨ (x3 = 0 ∧ ¬ SQ S T wo wn sa D m)) → Rt (LF_X12_who N 2 x1 x2 x3 0 σ) Q) : ∀ (j k N : Nat) (x3 x4 : Int32) (σ : Sg), j + k = T → j + 1 + M0 ≤ N → x4.toInt = (k : Int) → FXz σ0 σ →
    ((x3 = 1 ∧ ∀ i, i < k → D_at (aMins S (wn i) (aStp m 3 D)) (wo i) = sa i) ∨ (x3 = 0 ∧ ¬ SQ S T wo wn sa D m)) → Rt (LF_X12_who N 1 x1 x2 x3 x4 σ) Q := by
  intro j
  induction j with
  | zero =>
    intro k N x3 x4 σ hj hN h4 z p
    have me : MSe T wo wn sa σ := MSe_eq (fun id j a => FXz_i z (by omega)) me0
    have h41 := me.1
    obtain ⟨N, rfl⟩ : ∃ i, N = i + 1 := ⟨N - 1, by omega⟩
    show Rt (LB_X12_who_17 (LF_X12_who N) x1 x2 x3 x4 σ) _
    unfold LB_X12_who_17
    refine Rt_t (i_le (by omega)) ?_
    refine ct N σ x3 (by omega) z ?_
    rcases p with ⟨a, p⟩ | p
    · exact Or.inl ⟨a, fun i hi => p i (by omega)⟩
    · exact Or.inr p
  | succ j ih =>
    intro k N x3 x4 σ hj hN h4 z p
    have me : MSe T wo wn sa σ := MSe_eq (fun id j a => FXz_i z (by omega)) me0
    have h41 := me.1
    obtain ⟨N, rfl⟩ : ∃ i, N = i + 1 := ⟨N - 1, by omega⟩
    show Rt (LB_X12_who_17 (LF_X12_who N) x1 x2 x3 x4 σ) _
    unfold LB_X12_who_17
    refine Rt_f (i_nle (by omega)) ?_
    rcases p with ⟨a, p⟩ | ⟨a, p⟩
    · refine Rt_f (by rw [a]; decide) ?_
      refine Rt_fb (isSM hw (HMo_z z h0) me h2 hm h4 (by omega)) (fun r4 σ3 ⟨z3, q⟩ => ?_)
      refine Rt_fl (fun v5 e5 => ?_)
      refine ih (k + 1) N r4 v5 σ3 (by omega) (by omega) (by rw [e5, i_inc (by omega)]; omega) (FXz_tr z z3) ?_
      rcases q with ⟨b, q⟩ | ⟨b, q⟩
      · refine Or.inl ⟨b, fun i hi => ?_⟩
        by_cases y : i = k
        · rw [y]; exact q
        · exact p i (by omega)
      · exact Or.inr ⟨b, fun w => q (w k (by omega))⟩
    · refine Rt_t a ?_
      exact ct N σ x3 (by omega) z (Or.inr ⟨a, p⟩)
theorem whoLM {n T : Nat} {K : Int} {S : Stc} {D : Dyn} {wo wn : Nat → Nat} {sa : Nat → Int} {σ0 : Sg} (hw : ∀ k, k < T → wo k < n ∧ wn k ≤ 30) (hT : T ≤ 6) (h0 : HMo n K S D σ0) (me0 : MSe T wo wn sa σ0) : ∀ (i k N : Nat) (x1 x2 : Int32) (σ : Sg), i + k = n → 20 * i + 2 ≤ N → x2.toInt = (k : Int) → FXz σ0 σ →
    Rt (LF_X12_who N 0 x1 x2 0 0 σ) (fun r σ' => WhR (SQ S T wo wn sa D) i k x1 r ∧ FXz σ0 σ') := by
  intro i
  induction i with
  | zero =>
    intro k N x1 x2 σ hi hN h2 z
    have hn := (HMo_z z h0).2.2.2.2.2.1.1
    obtain ⟨N, rfl⟩ : ∃ i, N = i + 1 := ⟨N - 1, by omega⟩
    show Rt (LB_X12_who_4 (LF_X12_who N) x1 x2 σ) _
    unfold LB_X12_who_4
    refine Rt_t (i_le (by omega)) ?_
    exact Rt_p ⟨(rfl : x1 = x1), z⟩
  | succ i ih =>
    intro k N x1 x2 σ hi hN h2 z
    have n6 := h0.1.1
    have hn := (HMo_z z h0).2.2.2.2.2.1.1
    obtain ⟨N, rfl⟩ : ∃ i, N = i + 1 := ⟨N - 1, by omega⟩
    have ex := cl_eq (x := x2) (by omega)
    have ep : x2.toNatClampNeg = k := by omega
    have e3 : x2 = nI k := by rw [← ep]; exact nI_ofI (by omega)
    show Rt (LB_X12_who_4 (LF_X12_who N) x1 x2 σ) _
    unfold LB_X12_who_4
    refine Rt_f (i_nle (by omega)) ?_
    refine whoIn (M0 := 20 * i + 4) hw hT h0 me0 h2 (by omega) (fun N' σ' x3 hN' z' p => ?_) T 0 N (1 : Int32) (0 : Int32) σ rfl (by omega) rfl z (Or.inl ⟨rfl, fun i h => absurd h (Nat.not_lt_zero i)⟩)
    obtain ⟨N', rfl⟩ : ∃ i, N' = i + 1 := ⟨N' - 1, by omega⟩
    show Rt (LB_X12_who_44 (LF_X12_who N') x1 x2 x3 σ') _
    unfold LB_X12_who_44
    rcases p with ⟨a, p⟩ | ⟨a, p⟩
    · refine Rt_f (by rw [a]; decide) ?_
      refine Rt_fl (fun v4 e4 => Rt_fl (fun v5 e5 => ?_))
      refine Rt_w (ih (k + 1) N' v4 v5 σ' (by omega) (by omega) (by rw [e5, i_inc (by omega)]; omega) z') (fun r σ'' q => ⟨Or.inl ⟨p, ?_⟩, q.2⟩)
      have q1 := q.1
      rw [e4, e3] at q1; exact q1
    · refine Rt_t a ?_
      refine Rt_fl (fun v4 e4 => Rt_fl (fun v5 e5 => ?_))
      refine Rt_w (ih (k + 1) N' v4 v5 σ' (by omega) (by omega) (by rw [e5, i_inc (by omega)]; omega) z') (fun r σ'' q => ⟨Or.inr ⟨p, ?_⟩, q.2⟩)
      have q1 := q.1
      rw [e4, or0] at q1; exact q1
theorem A_who {V : Vx} {r1 r2 : Int32} {σ σ1 σ2 : Sg} (q : RELM σ) (s : SNP σ) (hI : INV V σ) (f : MA σ σ1) (h1 : F_X11_who σ = (r1, σ1)) (h2 : F_X12_who σ1 = (r2, σ2)) : r1 = r2 := by
  obtain ⟨n, S, D, c, m, si⟩ := HXC q hI f
  obtain ⟨⟨-, -, -, -, -, -, -, -, -, c41, -⟩, -⟩ := q.1.1
  have b41 := MI_f41 hI.2.1
  have hn := c.2.2.2.2.2.1.1
  obtain ⟨T, ht⟩ : ∃ t : Nat, (gi σ 74 41).toInt = (t : Int) := ⟨(gi σ 74 41).toInt.toNat, by omega⟩
  have h9 : (gi σ 9 1).toInt = 3 * (T : Int) := by omega
  have sk : ∀ k, k < T → (gi σ 10 (3 * k) = gi σ 142 k ∧ gi σ 10 (3 * k + 1) = gi σ 143 k ∧ gi σ 10 (3 * k + 2) = gi σ 144 k) ∧ (0 ≤ (gi σ 142 k).toInt ∧ (gi σ 142 k).toInt < (gi σ 1 1).toInt) ∧ (0 ≤ (gi σ 143 k).toInt ∧ (gi σ 143 k).toInt ≤ 30) := fun k hk => s.1 k (by show 3 * (k : Int) < (gi σ 9 1).toInt; omega)
  have hw : ∀ k, k < T → (gi σ 142 k).toInt.toNat < n ∧ (gi σ 143 k).toInt.toNat ≤ 30 := fun k hk => by have z := sk k hk; omega
  have ce : CSe T (fun k => (gi σ 142 k).toInt.toNat) (fun k => (gi σ 143 k).toInt.toNat) (fun k => (gi σ 144 k).toInt) σ := ⟨h9, fun k hk => by
    obtain ⟨⟨a, b, d⟩, e, g⟩ := sk k hk
    rw [a, b, d]
    exact ⟨by dsimp only; omega, by dsimp only; omega, rfl⟩⟩
  have me : MSe T (fun k => (gi σ 142 k).toInt.toNat) (fun k => (gi σ 143 k).toInt.toNat) (fun k => (gi σ 144 k).toInt) σ1 := ⟨by rw [f 74 (by decide +kernel) (by decide +kernel) 41]; exact ht, fun k hk => by
    obtain ⟨-, e, g⟩ := sk k hk
    rw [f 142 (by decide +kernel) (by decide +kernel), f 143 (by decide +kernel) (by decide +kernel), f 144 (by decide +kernel) (by decide +kernel)]
    exact ⟨by dsimp only; omega, by dsimp only; omega, rfl⟩⟩
  have n6 := c.1.1
  have A := Rt_of (x := F_X11_who σ) (whoLC (by omega) hw n 0 9 (0 : Int32) (0 : Int32) σ rfl (by omega) rfl c ce) h1
  have B := Rt_of (x := F_X12_who σ1) (whoLM hw (by omega) m me n 0 2000 (0 : Int32) (0 : Int32) σ1 rfl (by omega) rfl FXz_rf) h2
  exact WhR_un n 0 0 r1 r2 A B.1
/-! seen ones and plans: image, undo -/
theorem becLF {c a : Nat} : ∀ (N : Nat) (x : Int32) (σ : Sg), Ru (LF_X1_becomes c a N x σ) (fun σ' => ∀ id k, id < c + 1 ∨ c + 7 < id → gi σ' id k = gi σ id k) := by
  intro N
  induction N with
  | zero => intro x σ; exact fun id k _ => rfl
  | succ N ih =>
    intro x σ
    show Ru (LB_X1_becomes_42 c a (LF_X1_becomes c a N) x σ) _
    unfold LB_X1_becomes_42
    by_cases q : (6 : Int32) ≤ x
    · refine Ru_t q (Ru_fl (fun σ2 e2 => Ru_p (fun id k h => ?_)))
      rw [e2, gi_sia, if_neg (by omega)]
    · refine Ru_f q ?_
      refine Ru_fl (fun σ5 e5 => Ru_fl (fun σ9 e9 => Ru_fl (fun σ12 e12 => Ru_fl (fun σ15 e15 => Ru_fl (fun σ18 e18 => Ru_fl (fun σ21 e21 => Ru_fl (fun v22 _ => ?_)))))))
      refine Ru_w (ih v22 σ21) (fun σ' h id k z => ?_)
      rw [h id k z, e21, gi_si_ne (Or.inl (by omega)), e18, gi_si_ne (Or.inl (by omega)), e15, gi_si_ne (Or.inl (by omega)), e12, gi_si_ne (Or.inl (by omega)), e9, gi_si_ne (Or.inl (by omega)), e5, gi_sr]
theorem becF {c a : Nat} {σ : Sg} : Ru (F_X1_becomes c a σ) (fun σ' => ∀ id k, id < c ∨ c + 7 < id → gi σ' id k = gi σ id k) := by
  unfold F_X1_becomes
  refine Ru_fl (fun σ1 e1 => Ru_fl (fun σ2 e2 => Ru_fl (fun σ3 e3 => ?_)))
  cases g : gr σ3 a 10 with
  | none => exact fun id k _ => rfl
  | some f =>
    refine Ru_o rfl ?_
    refine Ru_fl (fun σ5 e5 => Ru_fl (fun σ6 e6 => ?_))
    refine Ru_w (becLF 9 (0 : Int32) σ6) (fun σ' h id k z => ?_)
    rw [h id k (by omega), e6, gi_si_ne (Or.inl (by omega)), e5, gi_sr, e3, gi_si_ne (Or.inl (by omega)), e2, gi_si_ne (Or.inl (by omega)), e1, gi_si_ne (Or.inl (by omega))]
theorem bec5 {c a n : Nat} {σ : Sg} (hc : nl c = n) (ha : nl a = n) (hn : n ≤ 1000) (h : a ≠ c) (h2 : a + 1 ≠ c + 1) (h3 : a + 1 ≠ c) : Ru (F_X5_becomes c a σ) (fun σ' => gi σ' c 1 = gi σ a 1 ∧ (∀ k, k < n → gi σ' (c + 1) k = gi σ (a + 1) k) ∧ ∀ id k, id ≠ c → id ≠ c + 1 → gi σ' id k = gi σ id k) := by
  have en : (Int32.ofNat n).toInt = (n : Int) := Int32.toInt_ofNat_of_lt (by omega)
  unfold F_X5_becomes
  refine Ru_fl (fun σ1 e1 => Ru_fl (fun v2 e2 => Ru_fl (fun σ3 e3 => ?_)))
  have v : v2.toInt = (n : Int) := by rw [e2, jmin_f, hc, ha]; split <;> omega
  have ev := cl_eq (x := v2) (by omega)
  refine Ru_p ⟨?_, fun k hk => ?_, fun id k q1 q2 => ?_⟩
  · rw [e3, gi_sia, if_neg (by omega), e1, gi_si_eq]
  · rw [e3, gi_sia, if_pos rfl, show (0 : Int32).toNatClampNeg = 0 from rfl, show v2.toNatClampNeg = n from by omega, cpy_in _ _ hk, e1]
    exact gi_si_ne (Or.inl h3)
  · rw [e3, gi_sia, if_neg q2, e1, gi_si_ne (Or.inl q1)]
noncomputable def TLD (σ : Sg) (c : Nat) (σ' : Sg) (a : Nat) : Prop := gi σ' (c + 8) 1 = gi σ (a + 8) 1 ∧ (∀ k, k < 18 → gi σ' (c + 9) k = gi σ (a + 9) k) ∧ gi σ' (c + 10) 1 = gi σ (a + 10) 1 ∧ (∀ k, k < 10 → gi σ' (c + 11) k = gi σ (a + 11) k)
theorem nl13 : nl 13 = nl 29 := by decide +kernel
theorem becT {c a : Nat} {σ : Sg} (h : (c = 17 ∧ a = 1) ∨ (c = 1 ∧ a = 17)) : Ru (F_X1_becomesTold c a σ) (fun σ' => TLD σ c σ' a) := by
  unfold F_X1_becomesTold
  refine Ru_fs (bec5 (n := 18) (by rcases h with h | h <;> rw [h.1] <;> decide) (by rcases h with h | h <;> rw [h.2] <;> decide) (by decide +kernel) (by omega) (by omega) (by omega)) (fun σ1 ⟨a1, a2, a3⟩ => ?_)
  refine Ru_fs (bec5 (n := 10) (by rcases h with h | h <;> rw [h.1] <;> decide) (by rcases h with h | h <;> rw [h.2] <;> decide) (by decide +kernel) (by omega) (by omega) (by omega)) (fun σ2 ⟨b1, b2, b3⟩ => ?_)
  refine Ru_fs (bec5 (n := nl 29) (by rcases h with h | h <;> rw [h.1] <;> first | rfl | exact nl13) (by rcases h with h | h <;> rw [h.2] <;> first | rfl | exact nl13) (by decide +kernel) (by omega) (by omega) (by omega)) (fun σ3 ⟨d1, d2, d3⟩ => ?_)
  refine Ru_p ⟨?_, fun k hk => ?_, ?_, fun k hk => ?_⟩
  · rw [d3 _ _ (by omega) (by omega), b3 _ _ (by omega) (by omega), a1]
  · rw [d3 _ _ (by omega) (by omega), b3 _ _ (by omega) (by omega)]; exact a2 k hk
  · rw [d3 _ _ (by omega) (by omega), b1, a3 _ _ (by omega) (by omega)]
  · rw [d3 _ _ (by omega) (by omega)]; exact (b2 k hk).trans (a3 _ _ (by omega) (by omega))
theorem TLD_img {σ σ1 : Sg} {r : Int32} (h : F_X11_image σ = (r, σ1)) : TLD σ 17 σ1 1 := by
  have q : Rt (F_X11_image σ) (fun _ σ' => TLD σ 17 σ' 1) := by
    unfold F_X11_image
    refine Rt_fs (becF (c := 17) (a := 1)) (fun s1 g1 => Rt_fs (becT (Or.inl ⟨rfl, rfl⟩)) (fun s2 ⟨t1, t2, t3, t4⟩ => Rt_fl (fun s3 e3 => Rt_p ?_)))
    refine ⟨?_, fun k hk => ?_, ?_, fun k hk => ?_⟩
    · rw [e3, gi_si_ne (Or.inl (by decide +kernel)), t1, g1 _ _ (by decide +kernel)]
    · rw [e3, gi_si_ne (Or.inl (by decide +kernel)), t2 k hk, g1 _ _ (by decide +kernel)]
    · rw [e3, gi_si_ne (Or.inl (by decide +kernel)), t3, g1 _ _ (by decide +kernel)]
    · rw [e3, gi_si_ne (Or.inl (by decide +kernel)), t4 k hk, g1 _ _ (by decide +kernel)]
  exact Rt_of q h
theorem TLD_und {σ σ1 : Sg} {r : Int32} (hz : ¬ gi σ 0 3 = 0) (h : F_X11_undo σ = (r, σ1)) : TLD σ 1 σ1 17 := by
  have q : Rt (F_X11_undo σ) (fun _ σ' => TLD σ 1 σ' 17) := by
    unfold F_X11_undo
    refine Rt_f hz ?_
    refine Rt_fs (becF (c := 1) (a := 17)) (fun s1 g1 => Rt_fs (becT (Or.inr ⟨rfl, rfl⟩)) (fun s2 ⟨t1, t2, t3, t4⟩ => Rt_p ?_))
    refine ⟨?_, fun k hk => ?_, ?_, fun k hk => ?_⟩
    · rw [t1, g1 _ _ (by decide +kernel)]
    · rw [t2 k hk, g1 _ _ (by decide +kernel)]
    · rw [t3, g1 _ _ (by decide +kernel)]
    · rw [t4 k hk, g1 _ _ (by decide +kernel)]
  exact Rt_of q h
theorem SNr_cp {σ σ' : Sg} {c w c' w' : Nat} (b : (gi σ (c + 8) 1).toInt ≤ 18) (hc : (gi σ c 1).toInt ≤ (gi σ' c' 1).toInt) (e8 : gi σ' (c' + 8) 1 = gi σ (c + 8) 1) (e9 : ∀ k, k < 18 → gi σ' (c' + 9) k = gi σ (c + 9) k) (e : ∀ k, k < 6 → gi σ' w' k = gi σ w k ∧ gi σ' (w' + 1) k = gi σ (w + 1) k ∧ gi σ' (w' + 2) k = gi σ (w + 2) k) (h : SNr σ c w) : SNr σ' c' w' := by
  intro k hk
  rw [e8] at hk
  obtain ⟨h1, h2, h3⟩ := h k hk
  obtain ⟨e1, e2, e3⟩ := e k (by omega)
  rw [e9 _ (by omega), e9 _ (by omega), e9 _ (by omega), e1, e2, e3]
  exact ⟨h1, ⟨h2.1, by omega⟩, h3⟩
theorem PNr_cp {σ σ' : Sg} {c w c' w' : Nat} (b : (gi σ (c + 10) 1).toInt ≤ 10) (e8 : gi σ' (c' + 10) 1 = gi σ (c + 10) 1) (e9 : ∀ k, k < 10 → gi σ' (c' + 11) k = gi σ (c + 11) k) (e : ∀ k, k < 10 → gi σ' w' k = gi σ w k) (h : PNr σ c w) : PNr σ' c' w' := by
  intro k hk
  rw [e8] at hk
  rw [e9 k (by omega), e k (by omega)]
  exact h k hk
theorem SNP_image {r1 r2 : Int32} {σ σ1 σ2 : Sg} (b9 : (gi σ 9 1).toInt ≤ 18) (b11 : (gi σ 11 1).toInt ≤ 10) (s : SNP σ) (f : FX (fun id => id = 18 ∨ id = 19 ∨ id = 20 ∨ id = 21 ∨ id = 22 ∨ id = 23 ∨ id = 24 ∨ id = 26 ∨ id = 28 ∨ id = 30) (fun id k => (id = 0 ∧ k = 3) ∨ (id = 17 ∧ k = 1) ∨ (id = 17 ∧ k = 3) ∨ (id = 17 ∧ k = 9) ∨ (id = 17 ∧ k = 10) ∨ (id = 17 ∧ k = 11) ∨ (id = 25 ∧ k = 1) ∨ (id = 27 ∧ k = 1) ∨ (id = 29 ∧ k = 1)) σ σ1) (y : CPY σ σ1 17 1) (h1 : F_X11_image σ = (r1, σ1)) (h2 : F_X12_image σ1 = (r2, σ2)) : SNP σ2 := by
  obtain ⟨s1, s2, s3, s4⟩ := s
  obtain ⟨t1, t2, t3, t4⟩ := TLD_img h1
  obtain ⟨k1, -, k3, -, mo⟩ := N_mimage h2
  have y1 := y.1.1
  have fi : ∀ id k, ¬ ((18 ≤ id ∧ id ≤ 30) ∨ id = 0 ∨ id = 17) → gi σ1 id k = gi σ id k := fun id k h9 => f.1 id k (by intro z; (try dsimp only at z); omega) (by intro z; (try dsimp only at z); omega)
  have gx : ∀ id k, ¬ (156 ≤ id ∧ id ≤ 168) → id ≠ 74 → gi σ2 id k = gi σ1 id k := fun id k h9 h8 => mo id k (by omega)
  have g0 : ∀ id k, ¬ ((18 ≤ id ∧ id ≤ 30) ∨ id = 0 ∨ id = 17) → ¬ (156 ≤ id ∧ id ≤ 168) → id ≠ 74 → gi σ2 id k = gi σ id k := fun id k a b c => by rw [gx id k b c, fi id k a]
  refine ⟨SNr_eq (by rw [g0 1 1 (by omega) (by omega) (by omega)]; exact Int.le_refl _) (g0 _ _ (by omega) (by omega) (by omega)) (fun k => g0 _ k (by omega) (by omega) (by omega)) (fun a k x y => g0 a k (by omega) (by omega) (by omega)) s1, ?_, PNr_eq (g0 _ _ (by omega) (by omega) (by omega)) (fun k => g0 _ k (by omega) (by omega) (by omega)) (fun k => g0 _ k (by omega) (by omega) (by omega)) s3, ?_⟩
  · refine SNr_cp b9 (by rw [gx 17 1 (by omega) (by omega), y1]; exact Int.le_refl _) (by rw [gx _ _ (by omega) (by omega)]; exact t1) (fun k hk => by rw [gx _ _ (by omega) (by omega)]; exact t2 k hk) (fun k hk => ?_) s1
    obtain ⟨-, -, -, -, -, -, -, m164, m165, m166⟩ := k1 k hk
    refine ⟨by rw [m164, fi 142 k (by omega)], ?_, ?_⟩
    · exact m165.trans (fi 143 k (by omega))
    · exact m166.trans (fi 144 k (by omega))
  · exact PNr_cp b11 (by rw [gx _ _ (by omega) (by omega)]; exact t3) (fun k hk => by rw [gx _ _ (by omega) (by omega)]; exact t4 k hk) (fun k hk => by rw [k3 k hk, fi 147 k (by omega)]) s3
theorem SNP_undo {r1 r2 : Int32} {σ σ1 σ2 : Sg} (b9 : (gi σ 25 1).toInt ≤ 18) (b11 : (gi σ 27 1).toInt ≤ 10) (ht : (gi σ 0 3).toInt = (gi σ 74 49).toInt) (s : SNP σ) (f : FX (fun id => id = 10 ∨ id = 12 ∨ id = 14 ∨ id = 2 ∨ id = 3 ∨ id = 4 ∨ id = 5 ∨ id = 6 ∨ id = 7 ∨ id = 8) (fun id k => (id = 1 ∧ k = 1) ∨ (id = 1 ∧ k = 3) ∨ (id = 1 ∧ k = 9) ∨ (id = 1 ∧ k = 10) ∨ (id = 1 ∧ k = 11) ∨ (id = 11 ∧ k = 1) ∨ (id = 13 ∧ k = 1) ∨ (id = 9 ∧ k = 1)) σ σ1) (y0 : (gi σ 0 3).toInt ≠ 0 → CPY σ σ1 1 17) (y9 : (gi σ 0 3).toInt = 0 → σ1 = σ) (h1 : F_X11_undo σ = (r1, σ1)) (h2 : F_X12_undo σ1 = (r2, σ2)) : SNP σ2 := by
  by_cases z : (gi σ 0 3).toInt = 0
  · have e := y9 z
    subst e
    have e49 : gi σ1 74 49 = 0 := i_eq (b := (0 : Int32)) (by show (gi σ1 74 49).toInt = 0; omega)
    unfold F_X12_undo at h2
    rw [if_pos e49] at h2
    rw [← (Prod.mk.inj h2).2]
    exact s
  have zn : ¬ gi σ 0 3 = 0 := fun e => z (congrArg Int32.toInt e)
  obtain ⟨s1, s2, s3, s4⟩ := s
  obtain ⟨t1, t2, t3, t4⟩ := TLD_und zn h1
  have y1 := (y0 z).1.1
  have fi : ∀ id k, ¬ (1 ≤ id ∧ id ≤ 14) → gi σ1 id k = gi σ id k := fun id k h9 => f.1 id k (by intro z; (try dsimp only at z); omega) (by intro z; (try dsimp only at z); omega)
  have hz : ¬ gi σ1 74 49 = 0 := fun e => by
    rw [fi 74 49 (by omega)] at e
    have e2 : (gi σ 74 49).toInt = 0 := congrArg Int32.toInt e
    omega
  obtain ⟨k1, -, k3, -, mo⟩ := N_mundo h2 hz
  have gx : ∀ id k, ¬ (74 ≤ id ∧ id ≤ 148) → gi σ2 id k = gi σ1 id k := fun id k h9 => mo id k (by omega)
  have g0 : ∀ id k, ¬ (74 ≤ id ∧ id ≤ 148) → ¬ (1 ≤ id ∧ id ≤ 14) → gi σ2 id k = gi σ id k := fun id k a c => by rw [gx id k a, fi id k c]
  refine ⟨?_, SNr_eq (by rw [g0 17 1 (by omega) (by omega)]; exact Int.le_refl _) (g0 _ _ (by omega) (by omega)) (fun k => g0 _ k (by omega) (by omega)) (fun a k x y => g0 a k (by omega) (by omega)) s2, ?_, PNr_eq (g0 _ _ (by omega) (by omega)) (fun k => g0 _ k (by omega) (by omega)) (fun k => g0 _ k (by omega) (by omega)) s4⟩
  · refine SNr_cp b9 (by rw [gx 1 1 (by omega), y1]; exact Int.le_refl _) (by rw [gx _ _ (by omega)]; exact t1) (fun k hk => by rw [gx _ _ (by omega)]; exact t2 k hk) (fun k hk => ?_) s2
    obtain ⟨-, -, -, -, -, -, -, m142, m143, m144⟩ := k1 k hk
    refine ⟨by rw [m142, fi 164 k (by omega)], ?_, ?_⟩
    · exact m143.trans (fi 165 k (by omega))
    · exact m144.trans (fi 166 k (by omega))
  · exact PNr_cp b11 (by rw [gx _ _ (by omega)]; exact t3) (fun k hk => by rw [gx _ _ (by omega)]; exact t4 k hk) (fun k hk => by rw [k3 k hk, fi 167 k (by omega)]) s4
/-! see, plan, image, undo: all that they say, and the functions too -/
set_option maxRecDepth 100000 in
set_option maxHeartbeats 4000000 in
theorem kH_X11_see {l : Launch} {V : Vx} {a1 : Int32} {a2 : Int32} {a3 : Int32} {σ0 : Sg} {Qk : Int32 → Sg → Prop} (m0 : XI V σ0) (pre0 : (gi σ0 9 1).toInt % 3 = 0) (h9ret : ∀ (r : Int32) (σ' : Sg), XI V σ' → FX (fun id => id = 10) (fun id k => (id = 9 ∧ k = 1)) σ0 σ' → ((gi σ' 9 1).toInt % 3 = 0) → (SEA r a1 a2 a3 (gi σ0 1 1).toInt ((gi σ0 9 1).toInt / 3) ((gi σ' 9 1).toInt / 3)) → (F_X11_see a1 a2 a3 σ0 = (r, σ')) → Qk r σ') : K_X11_see l V a1 a2 a3 σ0 Qk := by
  refine e_X11_see (fun M hl hV hN C => ?_)
  subst hl
  subst hV
  obtain ⟨R9, H0⟩ : ∃ R9, F_X11_see a1 a2 a3 σ0 = R9 := ⟨_, rfl⟩
  have c9 : capI 9 = 18 := rfl
  have n9 : (nl 9 : Int) = 18 := by decide +kernel
  have f0 : FX (fun id => id = 10) (fun id k => (id = 9 ∧ k = 1)) σ0 σ0 := FX_rf
  have t_1 := XI_c1 m0 (id := 1) (k := 1) (lim_C0_1 (Or.inl rfl))
  have t_2 := XI_c1 m0 (id := 9) (k := 1) (lim_C8_1 (Or.inl rfl))
  have H := H0
  unfold F_X11_see at H
  refine s_X11_see_0 C hN  ?_
  refine ⟨?_, ?_⟩
  · intro q_3
    replace H := f_f q_3 H
    have w_4 := Int32.toInt_lt a1
    have w_5 := Int32.le_toInt a1
    have b_6 : ¬ a1.toInt = (-1) := fun h9 => q_3 (Int32.toInt_inj.mp h9)
    refine kF_X11_isMower  m0   (fun r3 σ2 mσ2 cσ2 plσ2 phσ2 (pσ2_0 : (r3.toInt = 1 ∧ 0 ≤ a1.toInt ∧ a1.toInt < (gi σ0 1 1).toInt) ∨ (r3.toInt = 0 ∧ (a1.toInt < 0 ∨ (gi σ0 1 1).toInt ≤ a1.toInt))) hσ2 => ?_)
    obtain rfl := FX_nil cσ2
    replace H := f_b hσ2 H
    refine ⟨?_, ?_⟩
    · intro q_7
      replace H := f_f q_7 H
      have b_8 : ¬ r3.toInt = 0 := fun h9 => q_7 (Int32.toInt_inj.mp h9)
      refine ⟨?_, ?_⟩
      · intro q_9
        replace H := f_t q_9 H
        have w_10 := Int32.toInt_lt a2
        have w_11 := Int32.le_toInt a2
        have b_12 : a2.toInt < 0 := Int32.lt_iff_toInt_lt.mp q_9
        have z_13 : (-2 : Int32).toInt = -2 := rfl
        exact h9ret (-2 : Int32) σ0 m0 f0 (by first | with_reducible assumption | with_reducible rfl | omega | assumption | rfl) (by unfold SEA; omega) (H0.trans H.symm)
      · intro q_9
        replace H := f_f q_9 H
        have w_14 := Int32.toInt_lt a2
        have w_15 := Int32.le_toInt a2
        have b_16 : ¬ a2.toInt < 0 := fun h9 => q_9 (Int32.lt_iff_toInt_lt.mpr h9)
        refine ⟨?_, ?_⟩
        · intro q_17
          replace H := f_t q_17 H
          have b_18 : (30 : Int) < a2.toInt := Int32.lt_iff_toInt_lt.mp q_17
          have z_19 : (-2 : Int32).toInt = -2 := rfl
          exact h9ret (-2 : Int32) σ0 m0 f0 (by first | with_reducible assumption | with_reducible rfl | omega | assumption | rfl) (by unfold SEA; omega) (H0.trans H.symm)
        · intro q_17
          replace H := f_f q_17 H
          have b_20 : ¬ (30 : Int) < a2.toInt := fun h9 => q_17 (Int32.lt_iff_toInt_lt.mpr h9)
          refine ⟨?_, ?_⟩
          · intro q_21
            replace H := f_t q_21 H
            have w_22 := Int32.toInt_lt a3
            have w_23 := Int32.le_toInt a3
            have b_24 : a3.toInt < 0 := Int32.lt_iff_toInt_lt.mp q_21
            have z_25 : (-2 : Int32).toInt = -2 := rfl
            exact h9ret (-2 : Int32) σ0 m0 f0 (by first | with_reducible assumption | with_reducible rfl | omega | assumption | rfl) (by unfold SEA; omega) (H0.trans H.symm)
          · intro q_21
            replace H := f_f q_21 H
            have w_26 := Int32.toInt_lt a3
            have w_27 := Int32.le_toInt a3
            have b_28 : ¬ a3.toInt < 0 := fun h9 => q_21 (Int32.lt_iff_toInt_lt.mpr h9)
            refine ⟨?_, ?_⟩
            · intro q_29
              replace H := f_t q_29 H
              have b_30 : a3.toInt ≤ 9999 := Int32.le_iff_toInt_le.mp q_29
              refine kF_X5_isFull (isN_C8 (Or.inl rfl)) m0   (fun r10 σ9 mσ9 cσ9 plσ9 phσ9 (pσ9_0 : (r10.toInt = 1 ∧ (nl 9 : Int) ≤ (gi σ0 9 1).toInt) ∨ (r10.toInt = 0 ∧ (gi σ0 9 1).toInt < (nl 9 : Int))) hσ9 => ?_)
              obtain rfl := FX_nil cσ9
              replace H := f_b hσ9 H
              refine ⟨?_, ?_⟩
              · intro q_31
                replace H := f_t q_31 H
                have b_32 : r10.toInt = 0 := congrArg Int32.toInt q_31
                refine kF_X5_comes (isN_C8 (Or.inl rfl)) m0  (by omega) (by first | exact okNum_b (by omega) (by omega) | exact okNum_9 (by omega)) (fun σ12 mσ12 cσ12 (pσ12_0 : (gi σ12 9 1).toInt = (gi σ0 9 1).toInt + 1) hσ12 => ?_)
                replace H := f_v hσ12 H
                have fσ12 : FX (fun id => id = 10) (fun id k => (id = 9 ∧ k = 1)) σ0 σ12 := FX_tr f0 cσ12 (fun x (h9 : x = 10) => (show x = 10 from h9)) (fun x k (h9 : (x = 9 ∧ k = 1)) => (show (x = 10) ∨ ((x = 9 ∧ k = 1)) from Or.inr (show (x = 9 ∧ k = 1) from h9)))
                have k_33 : (gi σ12 1 1).toInt = (gi σ0 1 1).toInt := congrArg Int32.toInt (FX_i cσ12 (show ¬ (1 = 10) from by omega) (show ¬ ((1 = 9 ∧ 1 = 1)) from by omega))
                have t_34 := XI_c1 mσ12 (id := 9) (k := 1) (lim_C8_1 (Or.inl rfl))
                refine kF_X5_comes (isN_C8 (Or.inl rfl)) mσ12  (by omega) (by first | exact okNum_b (by omega) (by omega) | exact okNum_9 (by omega)) (fun σ13 mσ13 cσ13 (pσ13_0 : (gi σ13 9 1).toInt = (gi σ12 9 1).toInt + 1) hσ13 => ?_)
                replace H := f_v hσ13 H
                have fσ13 : FX (fun id => id = 10) (fun id k => (id = 9 ∧ k = 1)) σ0 σ13 := FX_tr fσ12 cσ13 (fun x (h9 : x = 10) => (show x = 10 from h9)) (fun x k (h9 : (x = 9 ∧ k = 1)) => (show (x = 10) ∨ ((x = 9 ∧ k = 1)) from Or.inr (show (x = 9 ∧ k = 1) from h9)))
                have k_35 : (gi σ13 1 1).toInt = (gi σ12 1 1).toInt := congrArg Int32.toInt (FX_i cσ13 (show ¬ (1 = 10) from by omega) (show ¬ ((1 = 9 ∧ 1 = 1)) from by omega))
                have t_36 := XI_c1 mσ13 (id := 9) (k := 1) (lim_C8_1 (Or.inl rfl))
                refine kF_X5_comes (isN_C8 (Or.inl rfl)) mσ13  (by omega) (by first | exact okNum_b (by omega) (by omega) | exact okNum_9 (by omega)) (fun σ14 mσ14 cσ14 (pσ14_0 : (gi σ14 9 1).toInt = (gi σ13 9 1).toInt + 1) hσ14 => ?_)
                replace H := f_v hσ14 H
                have fσ14 : FX (fun id => id = 10) (fun id k => (id = 9 ∧ k = 1)) σ0 σ14 := FX_tr fσ13 cσ14 (fun x (h9 : x = 10) => (show x = 10 from h9)) (fun x k (h9 : (x = 9 ∧ k = 1)) => (show (x = 10) ∨ ((x = 9 ∧ k = 1)) from Or.inr (show (x = 9 ∧ k = 1) from h9)))
                have k_37 : (gi σ14 1 1).toInt = (gi σ13 1 1).toInt := congrArg Int32.toInt (FX_i cσ14 (show ¬ (1 = 10) from by omega) (show ¬ ((1 = 9 ∧ 1 = 1)) from by omega))
                have t_38 := XI_c1 mσ14 (id := 9) (k := 1) (lim_C8_1 (Or.inl rfl))
                have t_39 : ((gi σ14 9 1) / (3 : Int32)).toInt = (gi σ14 9 1).toInt / 3 := i_div (by omega) (by decide +kernel) rfl
                exact h9ret ((gi σ14 9 1) / (3 : Int32)) σ14 mσ14 fσ14 (by first | with_reducible assumption | with_reducible rfl | omega | assumption | rfl) (by unfold SEA; omega) (H0.trans H.symm)
              · intro q_31
                replace H := f_f q_31 H
                have b_40 : ¬ r10.toInt = 0 := fun h9 => q_31 (Int32.toInt_inj.mp h9)
                have z_41 : (-4 : Int32).toInt = -4 := rfl
                exact h9ret (-4 : Int32) σ0 m0 f0 (by first | with_reducible assumption | with_reducible rfl | omega | assumption | rfl) (by unfold SEA; omega) (H0.trans H.symm)
            · intro q_29
              replace H := f_f q_29 H
              have b_42 : ¬ a3.toInt ≤ 9999 := fun h9 => q_29 (Int32.le_iff_toInt_le.mpr h9)
              have z_43 : (-2 : Int32).toInt = -2 := rfl
              exact h9ret (-2 : Int32) σ0 m0 f0 (by first | with_reducible assumption | with_reducible rfl | omega | assumption | rfl) (by unfold SEA; omega) (H0.trans H.symm)
    · intro q_7
      replace H := f_t q_7 H
      have b_44 : r3.toInt = 0 := congrArg Int32.toInt q_7
      have z_45 : (-1 : Int32).toInt = -1 := rfl
      exact h9ret (-1 : Int32) σ0 m0 f0 (by first | with_reducible assumption | with_reducible rfl | omega | assumption | rfl) (by unfold SEA; omega) (H0.trans H.symm)
  · intro q_3
    replace H := f_t q_3 H
    have w_46 := Int32.toInt_lt a1
    have w_47 := Int32.le_toInt a1
    have b_48 : a1.toInt = (-1) := congrArg Int32.toInt q_3
    intro σ15 eσ15
    replace H := f_l eσ15 H
    have z_49 : (0 : Int32).toInt = 0 := rfl
    have mσ15 : XI (mV M) σ15 := by rw [eσ15]; exact XIs_b m0 (lim_C8_1 (Or.inl rfl)) (by omega) (by omega)
    have fσ15 : FX (fun id => id = 10) (fun id k => (id = 9 ∧ k = 1)) σ0 σ15 := by rw [eσ15]; exact FX_si f0 (Or.inr (show (9 = 9 ∧ 1 = 1) from ⟨rfl, rfl⟩))
    have k_50 : (gi σ15 1 1).toInt = (gi σ0 1 1).toInt := by rw [eσ15]; exact congrArg Int32.toInt (gi_si_ne (Or.inl (by omega)))
    have k_51 : (gi σ15 9 1).toInt = 0 := by rw [eσ15]; exact congrArg Int32.toInt gi_si_eq
    exact h9ret (0 : Int32) σ15 mσ15 fσ15 (by first | with_reducible assumption | with_reducible rfl | omega | assumption | rfl) (by unfold SEA; omega) (H0.trans H.symm)
set_option maxRecDepth 100000 in
set_option maxHeartbeats 4000000 in
theorem kH_X12_see {l : Launch} {V : Vx} {a1 : Int32} {a2 : Int32} {a3 : Int32} {σ0 : Sg} {Qk : Int32 → Sg → Prop} (m0 : MI σ0) (h9ret : ∀ (r : Int32) (σ' : Sg), MI σ' → Fr [74, 142, 143, 144] [41] σ0 σ' → (SEA r a1 a2 a3 (gi σ0 74 0).toInt (gi σ0 74 41).toInt (gi σ' 74 41).toInt) → (F_X12_see a1 a2 a3 σ0 = (r, σ')) → Qk r σ') : K_X12_see l V a1 a2 a3 σ0 Qk := by
  refine e_X12_see (fun M hl hV hN C => ?_)
  subst hl
  subst hV
  obtain ⟨R9, H0⟩ : ∃ R9, F_X12_see a1 a2 a3 σ0 = R9 := ⟨_, rfl⟩
  have f0 : Fr [74, 142, 143, 144] [41] σ0 σ0 := Fr_rf
  have H := H0
  unfold F_X12_see at H
  refine s_X12_see_0 C hN ?_
  refine ⟨?_, ?_⟩
  · intro q_1
    replace H := f_f q_1 H
    have w_2 := Int32.toInt_lt a1
    have w_3 := Int32.le_toInt a1
    have b_4 : ¬ a1.toInt = (-1) := fun h9 => q_1 (Int32.toInt_inj.mp h9)
    refine kF_X12_isMower m0  (fun r3 σ2 mσ2 cσ2 plσ2 phσ2 (pσ2_0 : (r3.toInt = 1 ∧ 0 ≤ a1.toInt ∧ a1.toInt < (gi σ0 74 0).toInt) ∨ (r3.toInt = 0 ∧ (a1.toInt < 0 ∨ (gi σ0 74 0).toInt ≤ a1.toInt))) hσ2 => ?_)
    obtain rfl := Fr_nil cσ2
    replace H := f_b hσ2 H
    have t_5 := MI_f0 m0
    refine ⟨?_, ?_⟩
    · intro q_6
      replace H := f_f q_6 H
      have b_7 : ¬ r3.toInt = 0 := fun h9 => q_6 (Int32.toInt_inj.mp h9)
      refine kF_X12_in m0  (fun r6 σ5 mσ5 cσ5 plσ5 phσ5 (pσ5_0 : (r6.toInt = 1 ∧ (0 : Int) ≤ a2.toInt ∧ a2.toInt ≤ (30 : Int)) ∨ (r6.toInt = 0 ∧ (a2.toInt < (0 : Int) ∨ (30 : Int) < a2.toInt))) hσ5 => ?_)
      obtain rfl := Fr_nil cσ5
      replace H := f_b hσ5 H
      refine ⟨?_, ?_⟩
      · intro q_8
        replace H := f_t q_8 H
        have b_9 : r6.toInt = 0 := congrArg Int32.toInt q_8
        have z_10 : (-2 : Int32).toInt = -2 := rfl
        exact h9ret (-2 : Int32) σ0 m0 f0 (by unfold SEA; omega) (H0.trans H.symm)
      · intro q_8
        replace H := f_f q_8 H
        have b_11 : ¬ r6.toInt = 0 := fun h9 => q_8 (Int32.toInt_inj.mp h9)
        refine kF_X12_in m0  (fun r9 σ8 mσ8 cσ8 plσ8 phσ8 (pσ8_0 : (r9.toInt = 1 ∧ (0 : Int) ≤ a3.toInt ∧ a3.toInt ≤ (9999 : Int)) ∨ (r9.toInt = 0 ∧ (a3.toInt < (0 : Int) ∨ (9999 : Int) < a3.toInt))) hσ8 => ?_)
        obtain rfl := Fr_nil cσ8
        replace H := f_b hσ8 H
        refine ⟨?_, ?_⟩
        · intro q_12
          replace H := f_f q_12 H
          have b_13 : ¬ r9.toInt = 0 := fun h9 => q_12 (Int32.toInt_inj.mp h9)
          refine ⟨?_, ?_⟩
          · intro q_14
            replace H := f_f q_14 H
            have t_15 := MI_f41 m0
            have b_16 : ¬ (gi σ0 74 41).toInt = 6 := fun h9 => q_14 (Int32.toInt_inj.mp h9)
            have hv_17 : vp_in (gi σ0 74 41) 6 := vp_in_iff.mpr ⟨by omega, by omega⟩
            refine ⟨hv_17, ?_⟩
            intro σ13 eσ13
            replace H := f_l eσ13 H
            have mσ13 : MI σ13 := by rw [eσ13]; exact MIs_a142 m0 (by omega) (by omega)
            have fσ13 : Fr [74, 142, 143, 144] [41] σ0 σ13 := by rw [eσ13]; exact Fr_si f0 (by decide +kernel) (fun h9 => absurd h9 (by decide +kernel))
            have k_18 : (gi σ13 74 0).toInt = (gi σ0 74 0).toInt := gk_l eσ13 rfl
            have k_19 : (gi σ13 74 41).toInt = (gi σ0 74 41).toInt := gk_l eσ13 rfl
            have t_20 := MI_f41 mσ13
            have hv_21 : vp_in (gi σ13 74 41) 6 := vp_in_iff.mpr ⟨by omega, by omega⟩
            refine ⟨hv_21, ?_⟩
            intro σ15 eσ15
            replace H := f_l eσ15 H
            have w_22 := Int32.toInt_lt a2
            have w_23 := Int32.le_toInt a2
            have mσ15 : MI σ15 := by rw [eσ15]; exact MIs_a143 mσ13 (by omega) (by omega)
            have fσ15 : Fr [74, 142, 143, 144] [41] σ0 σ15 := by rw [eσ15]; exact Fr_si fσ13 (by decide +kernel) (fun h9 => absurd h9 (by decide +kernel))
            have k_24 : (gi σ15 74 0).toInt = (gi σ13 74 0).toInt := gk_l eσ15 rfl
            have k_25 : (gi σ15 74 41).toInt = (gi σ13 74 41).toInt := gk_l eσ15 rfl
            have t_26 := MI_f41 mσ15
            have hv_27 : vp_in (gi σ15 74 41) 6 := vp_in_iff.mpr ⟨by omega, by omega⟩
            refine ⟨hv_27, ?_⟩
            intro σ17 eσ17
            replace H := f_l eσ17 H
            have mσ17 : MI σ17 := by rw [eσ17]; exact MIs_au (a := 144) mσ15 rfl rfl
            have fσ17 : Fr [74, 142, 143, 144] [41] σ0 σ17 := by rw [eσ17]; exact Fr_si fσ15 (by decide +kernel) (fun h9 => absurd h9 (by decide +kernel))
            have k_28 : (gi σ17 74 0).toInt = (gi σ15 74 0).toInt := gk_l eσ17 rfl
            have k_29 : (gi σ17 74 41).toInt = (gi σ15 74 41).toInt := gk_l eσ17 rfl
            intro σ18 eσ18
            replace H := f_l eσ18 H
            have t_30 := MI_f41 mσ17
            have t_31 : ((gi σ17 74 41) + (1 : Int32)).toInt = (gi σ17 74 41).toInt + 1 := i_add (x := (gi σ17 74 41)) (y := (1 : Int32)) (by show (_ : Int) ≤ (gi σ17 74 41).toInt + 1; omega) (by show (gi σ17 74 41).toInt + 1 ≤ (_ : Int); omega)
            have mσ18 : MI σ18 := by rw [eσ18]; exact MIs_f41 mσ17 (by omega) (by omega)
            have fσ18 : Fr [74, 142, 143, 144] [41] σ0 σ18 := by rw [eσ18]; exact Fr_si fσ17 (by decide +kernel) (fun _ => by decide +kernel)
            have k_32 : (gi σ18 74 0).toInt = (gi σ17 74 0).toInt := gk_r eσ18 rfl
            have k_33 : (gi σ18 74 41).toInt = ((gi σ17 74 41) + (1 : Int32)).toInt := by rw [eσ18]; exact congrArg Int32.toInt gi_si_eq
            have t_34 := MI_f41 mσ18
            exact h9ret (gi σ18 74 41) σ18 mσ18 fσ18 (by unfold SEA; omega) (H0.trans H.symm)
          · intro q_14
            replace H := f_t q_14 H
            have t_35 := MI_f41 m0
            have b_36 : (gi σ0 74 41).toInt = 6 := congrArg Int32.toInt q_14
            have z_37 : (-4 : Int32).toInt = -4 := rfl
            exact h9ret (-4 : Int32) σ0 m0 f0 (by unfold SEA; omega) (H0.trans H.symm)
        · intro q_12
          replace H := f_t q_12 H
          have b_38 : r9.toInt = 0 := congrArg Int32.toInt q_12
          have z_39 : (-2 : Int32).toInt = -2 := rfl
          exact h9ret (-2 : Int32) σ0 m0 f0 (by unfold SEA; omega) (H0.trans H.symm)
    · intro q_6
      replace H := f_t q_6 H
      have b_40 : r3.toInt = 0 := congrArg Int32.toInt q_6
      have z_41 : (-1 : Int32).toInt = -1 := rfl
      exact h9ret (-1 : Int32) σ0 m0 f0 (by unfold SEA; omega) (H0.trans H.symm)
  · intro q_1
    replace H := f_t q_1 H
    have w_42 := Int32.toInt_lt a1
    have w_43 := Int32.le_toInt a1
    have b_44 : a1.toInt = (-1) := congrArg Int32.toInt q_1
    intro σ19 eσ19
    replace H := f_l eσ19 H
    have z_45 : (0 : Int32).toInt = 0 := rfl
    have mσ19 : MI σ19 := by rw [eσ19]; exact MIs_f41 m0 (by omega) (by omega)
    have fσ19 : Fr [74, 142, 143, 144] [41] σ0 σ19 := by rw [eσ19]; exact Fr_si f0 (by decide +kernel) (fun _ => by decide +kernel)
    have k_46 : (gi σ19 74 0).toInt = (gi σ0 74 0).toInt := gk_r eσ19 rfl
    have k_47 : (gi σ19 74 41).toInt = 0 := by rw [eσ19]; exact congrArg Int32.toInt gi_si_eq
    exact h9ret (0 : Int32) σ19 mσ19 fσ19 (by unfold SEA; omega) (H0.trans H.symm)
set_option maxRecDepth 100000 in
set_option maxHeartbeats 4000000 in
theorem kH_X11_plan {l : Launch} {V : Vx} {a1 : Int32} {σ0 : Sg} {Qk : Int32 → Sg → Prop} (m0 : XI V σ0) (h9ret : ∀ (r : Int32) (σ' : Sg), XI V σ' → FX (fun id => id = 12) (fun id k => (id = 11 ∧ k = 1)) σ0 σ' → (PBA r a1 (gi σ0 11 1) (gi σ' 11 1) (2) 10) → (F_X11_plan a1 σ0 = (r, σ')) → Qk r σ') : K_X11_plan l V a1 σ0 Qk := by
  refine e_X11_plan (fun M hl hV hN C => ?_)
  subst hl
  subst hV
  obtain ⟨R9, H0⟩ : ∃ R9, F_X11_plan a1 σ0 = R9 := ⟨_, rfl⟩
  have c9 : capI 11 = 10 := rfl
  have n9 : (nl 11 : Int) = 10 := by decide +kernel
  have f0 : FX (fun id => id = 12) (fun id k => (id = 11 ∧ k = 1)) σ0 σ0 := FX_rf
  have t_1 := XI_c1 m0 (id := 1) (k := 1) (lim_C0_1 (Or.inl rfl))
  have t_2 := XI_c1 m0 (id := 11) (k := 1) (lim_C10_1 (Or.inl rfl))
  have H := H0
  unfold F_X11_plan at H
  refine s_X11_plan_0 C hN  ?_
  refine ⟨?_, ?_⟩
  · intro q_3
    replace H := f_f q_3 H
    have w_4 := Int32.toInt_lt a1
    have w_5 := Int32.le_toInt a1
    have b_6 : ¬ a1.toInt = (-1) := fun h9 => q_3 (Int32.toInt_inj.mp h9)
    refine ⟨?_, ?_⟩
    · intro q_7
      replace H := f_t q_7 H
      have b_8 : a1.toInt < 0 := Int32.lt_iff_toInt_lt.mp q_7
      have z_9 : (-1 : Int32).toInt = -1 := rfl
      exact h9ret (-1 : Int32) σ0 m0 f0 (by first | assumption | exact PBA_0 (by omega) | exact PBA_1 (by omega) | exact PBA_2 (by omega) | exact PBA_3 (by omega)) (H0.trans H.symm)
    · intro q_7
      replace H := f_f q_7 H
      have b_10 : ¬ a1.toInt < 0 := fun h9 => q_7 (Int32.lt_iff_toInt_lt.mpr h9)
      refine ⟨?_, ?_⟩
      · intro q_11
        replace H := f_t q_11 H
        have b_12 : a1.toInt ≤ 2 := Int32.le_iff_toInt_le.mp q_11
        refine kF_X5_isFull (isN_C10 (Or.inl rfl)) m0   (fun r5 σ4 mσ4 cσ4 plσ4 phσ4 (pσ4_0 : (r5.toInt = 1 ∧ (nl 11 : Int) ≤ (gi σ0 11 1).toInt) ∨ (r5.toInt = 0 ∧ (gi σ0 11 1).toInt < (nl 11 : Int))) hσ4 => ?_)
        obtain rfl := FX_nil cσ4
        replace H := f_b hσ4 H
        refine ⟨?_, ?_⟩
        · intro q_13
          replace H := f_t q_13 H
          have b_14 : r5.toInt = 0 := congrArg Int32.toInt q_13
          refine kF_X5_comes (isN_C10 (Or.inl rfl)) m0  (by omega) (okNum_11) (fun σ7 mσ7 cσ7 (pσ7_0 : (gi σ7 11 1).toInt = (gi σ0 11 1).toInt + 1) hσ7 => ?_)
          replace H := f_v hσ7 H
          have fσ7 : FX (fun id => id = 12) (fun id k => (id = 11 ∧ k = 1)) σ0 σ7 := FX_tr f0 cσ7 (fun x (h9 : x = 12) => (show x = 12 from h9)) (fun x k (h9 : (x = 11 ∧ k = 1)) => (show (x = 12) ∨ ((x = 11 ∧ k = 1)) from Or.inr (show (x = 11 ∧ k = 1) from h9)))
          have k_15 : (gi σ7 1 1).toInt = (gi σ0 1 1).toInt := congrArg Int32.toInt (FX_i cσ7 (show ¬ (1 = 12) from by omega) (show ¬ ((1 = 11 ∧ 1 = 1)) from by omega))
          have t_16 := XI_c1 mσ7 (id := 11) (k := 1) (lim_C10_1 (Or.inl rfl))
          exact h9ret (gi σ7 11 1) σ7 mσ7 fσ7 (by first | assumption | exact PBA_0 (by omega) | exact PBA_1 (by omega) | exact PBA_2 (by omega) | exact PBA_3 (by omega)) (H0.trans H.symm)
        · intro q_13
          replace H := f_f q_13 H
          have b_17 : ¬ r5.toInt = 0 := fun h9 => q_13 (Int32.toInt_inj.mp h9)
          have z_18 : (-4 : Int32).toInt = -4 := rfl
          exact h9ret (-4 : Int32) σ0 m0 f0 (by first | assumption | exact PBA_0 (by omega) | exact PBA_1 (by omega) | exact PBA_2 (by omega) | exact PBA_3 (by omega)) (H0.trans H.symm)
      · intro q_11
        replace H := f_f q_11 H
        have b_19 : ¬ a1.toInt ≤ 2 := fun h9 => q_11 (Int32.le_iff_toInt_le.mpr h9)
        have z_20 : (-1 : Int32).toInt = -1 := rfl
        exact h9ret (-1 : Int32) σ0 m0 f0 (by first | assumption | exact PBA_0 (by omega) | exact PBA_1 (by omega) | exact PBA_2 (by omega) | exact PBA_3 (by omega)) (H0.trans H.symm)
  · intro q_3
    replace H := f_t q_3 H
    have w_21 := Int32.toInt_lt a1
    have w_22 := Int32.le_toInt a1
    have b_23 : a1.toInt = (-1) := congrArg Int32.toInt q_3
    intro σ8 eσ8
    replace H := f_l eσ8 H
    have z_24 : (0 : Int32).toInt = 0 := rfl
    have mσ8 : XI (mV M) σ8 := by rw [eσ8]; exact XIs_b m0 (lim_C10_1 (Or.inl rfl)) (by omega) (by omega)
    have fσ8 : FX (fun id => id = 12) (fun id k => (id = 11 ∧ k = 1)) σ0 σ8 := by rw [eσ8]; exact FX_si f0 (Or.inr (show (11 = 11 ∧ 1 = 1) from ⟨rfl, rfl⟩))
    have k_25 : (gi σ8 1 1).toInt = (gi σ0 1 1).toInt := by rw [eσ8]; exact congrArg Int32.toInt (gi_si_ne (Or.inl (by omega)))
    have k_26 : (gi σ8 11 1).toInt = 0 := by rw [eσ8]; exact congrArg Int32.toInt gi_si_eq
    exact h9ret (0 : Int32) σ8 mσ8 fσ8 (by first | assumption | exact PBA_0 (by omega) | exact PBA_1 (by omega) | exact PBA_2 (by omega) | exact PBA_3 (by omega)) (H0.trans H.symm)
set_option maxRecDepth 100000 in
set_option maxHeartbeats 4000000 in
theorem kH_X12_plan {l : Launch} {V : Vx} {a1 : Int32} {σ0 : Sg} {Qk : Int32 → Sg → Prop} (m0 : MI σ0) (h9ret : ∀ (r : Int32) (σ' : Sg), MI σ' → Fr [74, 147] [45] σ0 σ' → (PBA r a1 (gi σ0 74 45) (gi σ' 74 45) (2) 10) → (F_X12_plan a1 σ0 = (r, σ')) → Qk r σ') : K_X12_plan l V a1 σ0 Qk := by
  refine e_X12_plan (fun M hl hV hN C => ?_)
  subst hl
  subst hV
  obtain ⟨R9, H0⟩ : ∃ R9, F_X12_plan a1 σ0 = R9 := ⟨_, rfl⟩
  have f0 : Fr [74, 147] [45] σ0 σ0 := Fr_rf
  have H := H0
  unfold F_X12_plan at H
  refine s_X12_plan_0 C hN ?_
  refine ⟨?_, ?_⟩
  · intro q_1
    replace H := f_f q_1 H
    have w_2 := Int32.toInt_lt a1
    have w_3 := Int32.le_toInt a1
    have b_4 : ¬ a1.toInt = (-1) := fun h9 => q_1 (Int32.toInt_inj.mp h9)
    refine kF_X12_in m0  (fun r3 σ2 mσ2 cσ2 plσ2 phσ2 (pσ2_0 : (r3.toInt = 1 ∧ (0 : Int) ≤ a1.toInt ∧ a1.toInt ≤ (2 : Int)) ∨ (r3.toInt = 0 ∧ (a1.toInt < (0 : Int) ∨ (2 : Int) < a1.toInt))) hσ2 => ?_)
    obtain rfl := Fr_nil cσ2
    replace H := f_b hσ2 H
    refine ⟨?_, ?_⟩
    · intro q_5
      replace H := f_f q_5 H
      have b_6 : ¬ r3.toInt = 0 := fun h9 => q_5 (Int32.toInt_inj.mp h9)
      refine ⟨?_, ?_⟩
      · intro q_7
        replace H := f_f q_7 H
        have t_8 := MI_f45 m0
        have b_9 : ¬ (gi σ0 74 45).toInt = 10 := fun h9 => q_7 (Int32.toInt_inj.mp h9)
        have hv_10 : vp_in (gi σ0 74 45) 10 := vp_in_iff.mpr ⟨by omega, by omega⟩
        refine ⟨hv_10, ?_⟩
        intro σ7 eσ7
        replace H := f_l eσ7 H
        have mσ7 : MI σ7 := by rw [eσ7]; exact MIs_au (a := 147) m0 rfl rfl
        have fσ7 : Fr [74, 147] [45] σ0 σ7 := by rw [eσ7]; exact Fr_si f0 (by decide +kernel) (fun h9 => absurd h9 (by decide +kernel))
        have k_11 : (gi σ7 74 45).toInt = (gi σ0 74 45).toInt := gk_l eσ7 rfl
        intro σ8 eσ8
        replace H := f_l eσ8 H
        have t_12 := MI_f45 mσ7
        have t_13 : ((gi σ7 74 45) + (1 : Int32)).toInt = (gi σ7 74 45).toInt + 1 := i_add (x := (gi σ7 74 45)) (y := (1 : Int32)) (by show (_ : Int) ≤ (gi σ7 74 45).toInt + 1; omega) (by show (gi σ7 74 45).toInt + 1 ≤ (_ : Int); omega)
        have mσ8 : MI σ8 := by rw [eσ8]; exact MIs_f45 mσ7 (by omega) (by omega)
        have fσ8 : Fr [74, 147] [45] σ0 σ8 := by rw [eσ8]; exact Fr_si fσ7 (by decide +kernel) (fun _ => by decide +kernel)
        have k_14 : (gi σ8 74 45).toInt = ((gi σ7 74 45) + (1 : Int32)).toInt := by rw [eσ8]; exact congrArg Int32.toInt gi_si_eq
        have t_15 := MI_f45 mσ8
        exact h9ret (gi σ8 74 45) σ8 mσ8 fσ8 (by first | assumption | exact PBA_0 (by omega) | exact PBA_1 (by omega) | exact PBA_2 (by omega) | exact PBA_3 (by omega)) (H0.trans H.symm)
      · intro q_7
        replace H := f_t q_7 H
        have t_16 := MI_f45 m0
        have b_17 : (gi σ0 74 45).toInt = 10 := congrArg Int32.toInt q_7
        have z_18 : (-4 : Int32).toInt = -4 := rfl
        exact h9ret (-4 : Int32) σ0 m0 f0 (by first | assumption | exact PBA_0 (by omega) | exact PBA_1 (by omega) | exact PBA_2 (by omega) | exact PBA_3 (by omega)) (H0.trans H.symm)
    · intro q_5
      replace H := f_t q_5 H
      have b_19 : r3.toInt = 0 := congrArg Int32.toInt q_5
      have z_20 : (-1 : Int32).toInt = -1 := rfl
      exact h9ret (-1 : Int32) σ0 m0 f0 (by first | assumption | exact PBA_0 (by omega) | exact PBA_1 (by omega) | exact PBA_2 (by omega) | exact PBA_3 (by omega)) (H0.trans H.symm)
  · intro q_1
    replace H := f_t q_1 H
    have w_21 := Int32.toInt_lt a1
    have w_22 := Int32.le_toInt a1
    have b_23 : a1.toInt = (-1) := congrArg Int32.toInt q_1
    intro σ9 eσ9
    replace H := f_l eσ9 H
    have z_24 : (0 : Int32).toInt = 0 := rfl
    have mσ9 : MI σ9 := by rw [eσ9]; exact MIs_f45 m0 (by omega) (by omega)
    have fσ9 : Fr [74, 147] [45] σ0 σ9 := by rw [eσ9]; exact Fr_si f0 (by decide +kernel) (fun _ => by decide +kernel)
    have k_25 : (gi σ9 74 45).toInt = 0 := by rw [eσ9]; exact congrArg Int32.toInt gi_si_eq
    exact h9ret (0 : Int32) σ9 mσ9 fσ9 (by first | assumption | exact PBA_0 (by omega) | exact PBA_1 (by omega) | exact PBA_2 (by omega) | exact PBA_3 (by omega)) (H0.trans H.symm)
set_option maxRecDepth 100000 in
set_option maxHeartbeats 4000000 in
theorem kH_X11_image {l : Launch} {V : Vx} {σ0 : Sg} {Qk : Int32 → Sg → Prop} (m0 : XI V σ0) (nn_1 : NN σ0 1) (h9ret : ∀ (r : Int32) (σ' : Sg), XI V σ' → FX (fun id => id = 18 ∨ id = 19 ∨ id = 20 ∨ id = 21 ∨ id = 22 ∨ id = 23 ∨ id = 24 ∨ id = 26 ∨ id = 28 ∨ id = 30) (fun id k => (id = 0 ∧ k = 3) ∨ (id = 17 ∧ k = 1) ∨ (id = 17 ∧ k = 3) ∨ (id = 17 ∧ k = 9) ∨ (id = 17 ∧ k = 10) ∨ (id = 17 ∧ k = 11) ∨ (id = 25 ∧ k = 1) ∨ (id = 27 ∧ k = 1) ∨ (id = 29 ∧ k = 1)) σ0 σ' → (NN σ' 1) → (NN σ' 17) → ((gi σ' 17 1).toInt = (gi σ0 1 1).toInt) → ((gi σ' 17 3).toInt = (gi σ0 1 3).toInt) → ((gi σ' 17 9).toInt = (gi σ0 1 9).toInt) → ((gi σ' 25 1).toInt = (gi σ0 9 1).toInt) → (CPY σ0 σ' 17 1) → ((gi σ' 27 1).toInt = (gi σ0 11 1).toInt) → ((gi σ' 29 1).toInt = (gi σ0 13 1).toInt) → ((gi σ' 0 3).toInt = 1) → (r.toInt = (gi σ0 1 1).toInt) → (F_X11_image σ0 = (r, σ')) → Qk r σ') : K_X11_image l V σ0 Qk := by
  refine e_X11_image (fun M hl hV hN C => ?_)
  subst hl
  subst hV
  obtain ⟨R9, H0⟩ : ∃ R9, F_X11_image σ0 = R9 := ⟨_, rfl⟩
  have f0 : FX (fun id => id = 18 ∨ id = 19 ∨ id = 20 ∨ id = 21 ∨ id = 22 ∨ id = 23 ∨ id = 24 ∨ id = 26 ∨ id = 28 ∨ id = 30) (fun id k => (id = 0 ∧ k = 3) ∨ (id = 17 ∧ k = 1) ∨ (id = 17 ∧ k = 3) ∨ (id = 17 ∧ k = 9) ∨ (id = 17 ∧ k = 10) ∨ (id = 17 ∧ k = 11) ∨ (id = 25 ∧ k = 1) ∨ (id = 27 ∧ k = 1) ∨ (id = 29 ∧ k = 1)) σ0 σ0 := FX_rf
  have t_1 := XI_c1 m0 (id := 0) (k := 3) (rfl)
  have t_2 := XI_c1 m0 (id := 1) (k := 1) (lim_C0_1 (Or.inl rfl))
  have t_3 := XI_c1 m0 (id := 1) (k := 3) (lim_C0_3 (Or.inl rfl))
  have t_4 := XI_c1 m0 (id := 1) (k := 9) (lim_C0_9 (Or.inl rfl))
  have t_5 := XI_c1 m0 (id := 11) (k := 1) (lim_C10_1 (Or.inl rfl))
  have t_6 := XI_c1 m0 (id := 13) (k := 1) (lim_C12_1 (Or.inl rfl))
  have t_7 := XI_c1 m0 (id := 17) (k := 1) (lim_C0_1 (Or.inr (Or.inl rfl)))
  have t_8 := XI_c1 m0 (id := 17) (k := 3) (lim_C0_3 (Or.inr (Or.inl rfl)))
  have t_9 := XI_c1 m0 (id := 17) (k := 9) (lim_C0_9 (Or.inr (Or.inl rfl)))
  have t_10 := XI_c1 m0 (id := 25) (k := 1) (lim_C8_1 (Or.inr (Or.inl rfl)))
  have t_11 := XI_c1 m0 (id := 27) (k := 1) (lim_C10_1 (Or.inr (Or.inl rfl)))
  have t_12 := XI_c1 m0 (id := 29) (k := 1) (lim_C12_1 (Or.inr (Or.inl rfl)))
  have t_13 := XI_c1 m0 (id := 9) (k := 1) (lim_C8_1 (Or.inl rfl))
  have H := H0
  unfold F_X11_image at H
  refine s_X11_image_0 C hN  ?_
  have z_14 : (1 : Int32).toInt = 1 := rfl
  refine kF_X1_becomes (Or.inr (Or.inl rfl)) (Or.inl rfl) m0 nn_1 (by first | with_reducible assumption | with_reducible rfl | omega | assumption | rfl) (fun σ1 mσ1 cσ1 nσ1_1 nσ1_17 (pσ1_0 : (gi σ1 17 1).toInt = (gi σ0 1 1).toInt) (pσ1_1 : (gi σ1 17 3).toInt = (gi σ0 1 3).toInt) (pσ1_2 : (gi σ1 17 9).toInt = (gi σ0 1 9).toInt) (pσ1_3 : CPY σ0 σ1 17 1) hσ1 => ?_)
  replace H := f_v hσ1 H
  have fσ1 : FX (fun id => id = 18 ∨ id = 19 ∨ id = 20 ∨ id = 21 ∨ id = 22 ∨ id = 23 ∨ id = 24 ∨ id = 26 ∨ id = 28 ∨ id = 30) (fun id k => (id = 0 ∧ k = 3) ∨ (id = 17 ∧ k = 1) ∨ (id = 17 ∧ k = 3) ∨ (id = 17 ∧ k = 9) ∨ (id = 17 ∧ k = 10) ∨ (id = 17 ∧ k = 11) ∨ (id = 25 ∧ k = 1) ∨ (id = 27 ∧ k = 1) ∨ (id = 29 ∧ k = 1)) σ0 σ1 := FX_tr f0 cσ1 (fun x (h9 : x = 18 ∨ x = 19 ∨ x = 20 ∨ x = 21 ∨ x = 22 ∨ x = 23 ∨ x = 24) => h9.elim (fun e9 => (show x = 18 ∨ x = 19 ∨ x = 20 ∨ x = 21 ∨ x = 22 ∨ x = 23 ∨ x = 24 ∨ x = 26 ∨ x = 28 ∨ x = 30 from Or.inl (e9))) (fun h9 => h9.elim (fun e9 => (show x = 18 ∨ x = 19 ∨ x = 20 ∨ x = 21 ∨ x = 22 ∨ x = 23 ∨ x = 24 ∨ x = 26 ∨ x = 28 ∨ x = 30 from Or.inr (Or.inl (e9)))) (fun h9 => h9.elim (fun e9 => (show x = 18 ∨ x = 19 ∨ x = 20 ∨ x = 21 ∨ x = 22 ∨ x = 23 ∨ x = 24 ∨ x = 26 ∨ x = 28 ∨ x = 30 from Or.inr (Or.inr (Or.inl (e9))))) (fun h9 => h9.elim (fun e9 => (show x = 18 ∨ x = 19 ∨ x = 20 ∨ x = 21 ∨ x = 22 ∨ x = 23 ∨ x = 24 ∨ x = 26 ∨ x = 28 ∨ x = 30 from Or.inr (Or.inr (Or.inr (Or.inl (e9)))))) (fun h9 => h9.elim (fun e9 => (show x = 18 ∨ x = 19 ∨ x = 20 ∨ x = 21 ∨ x = 22 ∨ x = 23 ∨ x = 24 ∨ x = 26 ∨ x = 28 ∨ x = 30 from Or.inr (Or.inr (Or.inr (Or.inr (Or.inl (e9))))))) (fun h9 => h9.elim (fun e9 => (show x = 18 ∨ x = 19 ∨ x = 20 ∨ x = 21 ∨ x = 22 ∨ x = 23 ∨ x = 24 ∨ x = 26 ∨ x = 28 ∨ x = 30 from Or.inr (Or.inr (Or.inr (Or.inr (Or.inr (Or.inl (e9)))))))) (fun h9 => (show x = 18 ∨ x = 19 ∨ x = 20 ∨ x = 21 ∨ x = 22 ∨ x = 23 ∨ x = 24 ∨ x = 26 ∨ x = 28 ∨ x = 30 from Or.inr (Or.inr (Or.inr (Or.inr (Or.inr (Or.inr (Or.inl (h9))))))))))))))) (fun x k (h9 : (x = 17 ∧ k = 1) ∨ (x = 17 ∧ k = 3) ∨ (x = 17 ∧ k = 9) ∨ (x = 17 ∧ k = 10) ∨ (x = 17 ∧ k = 11)) => (show (x = 18 ∨ x = 19 ∨ x = 20 ∨ x = 21 ∨ x = 22 ∨ x = 23 ∨ x = 24 ∨ x = 26 ∨ x = 28 ∨ x = 30) ∨ ((x = 0 ∧ k = 3) ∨ (x = 17 ∧ k = 1) ∨ (x = 17 ∧ k = 3) ∨ (x = 17 ∧ k = 9) ∨ (x = 17 ∧ k = 10) ∨ (x = 17 ∧ k = 11) ∨ (x = 25 ∧ k = 1) ∨ (x = 27 ∧ k = 1) ∨ (x = 29 ∧ k = 1)) from h9.elim (fun e9 => Or.inr (show (x = 0 ∧ k = 3) ∨ (x = 17 ∧ k = 1) ∨ (x = 17 ∧ k = 3) ∨ (x = 17 ∧ k = 9) ∨ (x = 17 ∧ k = 10) ∨ (x = 17 ∧ k = 11) ∨ (x = 25 ∧ k = 1) ∨ (x = 27 ∧ k = 1) ∨ (x = 29 ∧ k = 1) from Or.inr (Or.inl (e9)))) (fun h9 => h9.elim (fun e9 => Or.inr (show (x = 0 ∧ k = 3) ∨ (x = 17 ∧ k = 1) ∨ (x = 17 ∧ k = 3) ∨ (x = 17 ∧ k = 9) ∨ (x = 17 ∧ k = 10) ∨ (x = 17 ∧ k = 11) ∨ (x = 25 ∧ k = 1) ∨ (x = 27 ∧ k = 1) ∨ (x = 29 ∧ k = 1) from Or.inr (Or.inr (Or.inl (e9))))) (fun h9 => h9.elim (fun e9 => Or.inr (show (x = 0 ∧ k = 3) ∨ (x = 17 ∧ k = 1) ∨ (x = 17 ∧ k = 3) ∨ (x = 17 ∧ k = 9) ∨ (x = 17 ∧ k = 10) ∨ (x = 17 ∧ k = 11) ∨ (x = 25 ∧ k = 1) ∨ (x = 27 ∧ k = 1) ∨ (x = 29 ∧ k = 1) from Or.inr (Or.inr (Or.inr (Or.inl (e9)))))) (fun h9 => h9.elim (fun e9 => Or.inr (show (x = 0 ∧ k = 3) ∨ (x = 17 ∧ k = 1) ∨ (x = 17 ∧ k = 3) ∨ (x = 17 ∧ k = 9) ∨ (x = 17 ∧ k = 10) ∨ (x = 17 ∧ k = 11) ∨ (x = 25 ∧ k = 1) ∨ (x = 27 ∧ k = 1) ∨ (x = 29 ∧ k = 1) from Or.inr (Or.inr (Or.inr (Or.inr (Or.inl (e9))))))) (fun h9 => Or.inr (show (x = 0 ∧ k = 3) ∨ (x = 17 ∧ k = 1) ∨ (x = 17 ∧ k = 3) ∨ (x = 17 ∧ k = 9) ∨ (x = 17 ∧ k = 10) ∨ (x = 17 ∧ k = 11) ∨ (x = 25 ∧ k = 1) ∨ (x = 27 ∧ k = 1) ∨ (x = 29 ∧ k = 1) from Or.inr (Or.inr (Or.inr (Or.inr (Or.inr (Or.inl (h9)))))))))))))
  have k_15 : (gi σ1 0 3).toInt = (gi σ0 0 3).toInt := congrArg Int32.toInt (FX_i cσ1 (show ¬ (0 = 18 ∨ 0 = 19 ∨ 0 = 20 ∨ 0 = 21 ∨ 0 = 22 ∨ 0 = 23 ∨ 0 = 24) from by omega) (show ¬ ((0 = 17 ∧ 3 = 1) ∨ (0 = 17 ∧ 3 = 3) ∨ (0 = 17 ∧ 3 = 9) ∨ (0 = 17 ∧ 3 = 10) ∨ (0 = 17 ∧ 3 = 11)) from by omega))
  have k_16 : (gi σ1 1 1).toInt = (gi σ0 1 1).toInt := congrArg Int32.toInt (FX_i cσ1 (show ¬ (1 = 18 ∨ 1 = 19 ∨ 1 = 20 ∨ 1 = 21 ∨ 1 = 22 ∨ 1 = 23 ∨ 1 = 24) from by omega) (show ¬ ((1 = 17 ∧ 1 = 1) ∨ (1 = 17 ∧ 1 = 3) ∨ (1 = 17 ∧ 1 = 9) ∨ (1 = 17 ∧ 1 = 10) ∨ (1 = 17 ∧ 1 = 11)) from by omega))
  have k_17 : (gi σ1 1 3).toInt = (gi σ0 1 3).toInt := congrArg Int32.toInt (FX_i cσ1 (show ¬ (1 = 18 ∨ 1 = 19 ∨ 1 = 20 ∨ 1 = 21 ∨ 1 = 22 ∨ 1 = 23 ∨ 1 = 24) from by omega) (show ¬ ((1 = 17 ∧ 3 = 1) ∨ (1 = 17 ∧ 3 = 3) ∨ (1 = 17 ∧ 3 = 9) ∨ (1 = 17 ∧ 3 = 10) ∨ (1 = 17 ∧ 3 = 11)) from by omega))
  have k_18 : (gi σ1 1 9).toInt = (gi σ0 1 9).toInt := congrArg Int32.toInt (FX_i cσ1 (show ¬ (1 = 18 ∨ 1 = 19 ∨ 1 = 20 ∨ 1 = 21 ∨ 1 = 22 ∨ 1 = 23 ∨ 1 = 24) from by omega) (show ¬ ((1 = 17 ∧ 9 = 1) ∨ (1 = 17 ∧ 9 = 3) ∨ (1 = 17 ∧ 9 = 9) ∨ (1 = 17 ∧ 9 = 10) ∨ (1 = 17 ∧ 9 = 11)) from by omega))
  have k_19 : (gi σ1 11 1).toInt = (gi σ0 11 1).toInt := congrArg Int32.toInt (FX_i cσ1 (show ¬ (11 = 18 ∨ 11 = 19 ∨ 11 = 20 ∨ 11 = 21 ∨ 11 = 22 ∨ 11 = 23 ∨ 11 = 24) from by omega) (show ¬ ((11 = 17 ∧ 1 = 1) ∨ (11 = 17 ∧ 1 = 3) ∨ (11 = 17 ∧ 1 = 9) ∨ (11 = 17 ∧ 1 = 10) ∨ (11 = 17 ∧ 1 = 11)) from by omega))
  have k_20 : (gi σ1 13 1).toInt = (gi σ0 13 1).toInt := congrArg Int32.toInt (FX_i cσ1 (show ¬ (13 = 18 ∨ 13 = 19 ∨ 13 = 20 ∨ 13 = 21 ∨ 13 = 22 ∨ 13 = 23 ∨ 13 = 24) from by omega) (show ¬ ((13 = 17 ∧ 1 = 1) ∨ (13 = 17 ∧ 1 = 3) ∨ (13 = 17 ∧ 1 = 9) ∨ (13 = 17 ∧ 1 = 10) ∨ (13 = 17 ∧ 1 = 11)) from by omega))
  have t_21 := XI_c1 mσ1 (id := 17) (k := 1) (lim_C0_1 (Or.inr (Or.inl rfl)))
  have t_22 := XI_c1 mσ1 (id := 17) (k := 3) (lim_C0_3 (Or.inr (Or.inl rfl)))
  have t_23 := XI_c1 mσ1 (id := 17) (k := 9) (lim_C0_9 (Or.inr (Or.inl rfl)))
  have k_24 : (gi σ1 25 1).toInt = (gi σ0 25 1).toInt := congrArg Int32.toInt (FX_i cσ1 (show ¬ (25 = 18 ∨ 25 = 19 ∨ 25 = 20 ∨ 25 = 21 ∨ 25 = 22 ∨ 25 = 23 ∨ 25 = 24) from by omega) (show ¬ ((25 = 17 ∧ 1 = 1) ∨ (25 = 17 ∧ 1 = 3) ∨ (25 = 17 ∧ 1 = 9) ∨ (25 = 17 ∧ 1 = 10) ∨ (25 = 17 ∧ 1 = 11)) from by omega))
  have k_25 : (gi σ1 27 1).toInt = (gi σ0 27 1).toInt := congrArg Int32.toInt (FX_i cσ1 (show ¬ (27 = 18 ∨ 27 = 19 ∨ 27 = 20 ∨ 27 = 21 ∨ 27 = 22 ∨ 27 = 23 ∨ 27 = 24) from by omega) (show ¬ ((27 = 17 ∧ 1 = 1) ∨ (27 = 17 ∧ 1 = 3) ∨ (27 = 17 ∧ 1 = 9) ∨ (27 = 17 ∧ 1 = 10) ∨ (27 = 17 ∧ 1 = 11)) from by omega))
  have k_26 : (gi σ1 29 1).toInt = (gi σ0 29 1).toInt := congrArg Int32.toInt (FX_i cσ1 (show ¬ (29 = 18 ∨ 29 = 19 ∨ 29 = 20 ∨ 29 = 21 ∨ 29 = 22 ∨ 29 = 23 ∨ 29 = 24) from by omega) (show ¬ ((29 = 17 ∧ 1 = 1) ∨ (29 = 17 ∧ 1 = 3) ∨ (29 = 17 ∧ 1 = 9) ∨ (29 = 17 ∧ 1 = 10) ∨ (29 = 17 ∧ 1 = 11)) from by omega))
  have k_27 : (gi σ1 9 1).toInt = (gi σ0 9 1).toInt := congrArg Int32.toInt (FX_i cσ1 (show ¬ (9 = 18 ∨ 9 = 19 ∨ 9 = 20 ∨ 9 = 21 ∨ 9 = 22 ∨ 9 = 23 ∨ 9 = 24) from by omega) (show ¬ ((9 = 17 ∧ 1 = 1) ∨ (9 = 17 ∧ 1 = 3) ∨ (9 = 17 ∧ 1 = 9) ∨ (9 = 17 ∧ 1 = 10) ∨ (9 = 17 ∧ 1 = 11)) from by omega))
  have cy9 : CPY σ0 σ1 17 1 := by assumption
  refine kF_X1_becomesTold (Or.inr (Or.inl rfl)) (Or.inl rfl) mσ1  (by first | with_reducible assumption | with_reducible rfl | omega | assumption | rfl) (fun σ2 mσ2 cσ2 (pσ2_0 : (gi σ2 25 1).toInt = (gi σ1 9 1).toInt) (pσ2_1 : (gi σ2 27 1).toInt = (gi σ1 11 1).toInt) (pσ2_2 : (gi σ2 29 1).toInt = (gi σ1 13 1).toInt) hσ2 => ?_)
  replace H := f_v hσ2 H
  have fσ2 : FX (fun id => id = 18 ∨ id = 19 ∨ id = 20 ∨ id = 21 ∨ id = 22 ∨ id = 23 ∨ id = 24 ∨ id = 26 ∨ id = 28 ∨ id = 30) (fun id k => (id = 0 ∧ k = 3) ∨ (id = 17 ∧ k = 1) ∨ (id = 17 ∧ k = 3) ∨ (id = 17 ∧ k = 9) ∨ (id = 17 ∧ k = 10) ∨ (id = 17 ∧ k = 11) ∨ (id = 25 ∧ k = 1) ∨ (id = 27 ∧ k = 1) ∨ (id = 29 ∧ k = 1)) σ0 σ2 := FX_tr fσ1 cσ2 (fun x (h9 : x = 28 ∨ x = 30 ∨ x = 26) => h9.elim (fun e9 => (show x = 18 ∨ x = 19 ∨ x = 20 ∨ x = 21 ∨ x = 22 ∨ x = 23 ∨ x = 24 ∨ x = 26 ∨ x = 28 ∨ x = 30 from Or.inr (Or.inr (Or.inr (Or.inr (Or.inr (Or.inr (Or.inr (Or.inr (Or.inl (e9))))))))))) (fun h9 => h9.elim (fun e9 => (show x = 18 ∨ x = 19 ∨ x = 20 ∨ x = 21 ∨ x = 22 ∨ x = 23 ∨ x = 24 ∨ x = 26 ∨ x = 28 ∨ x = 30 from Or.inr (Or.inr (Or.inr (Or.inr (Or.inr (Or.inr (Or.inr (Or.inr (Or.inr (e9))))))))))) (fun h9 => (show x = 18 ∨ x = 19 ∨ x = 20 ∨ x = 21 ∨ x = 22 ∨ x = 23 ∨ x = 24 ∨ x = 26 ∨ x = 28 ∨ x = 30 from Or.inr (Or.inr (Or.inr (Or.inr (Or.inr (Or.inr (Or.inr (Or.inl (h9)))))))))))) (fun x k (h9 : (x = 27 ∧ k = 1) ∨ (x = 29 ∧ k = 1) ∨ (x = 25 ∧ k = 1)) => (show (x = 18 ∨ x = 19 ∨ x = 20 ∨ x = 21 ∨ x = 22 ∨ x = 23 ∨ x = 24 ∨ x = 26 ∨ x = 28 ∨ x = 30) ∨ ((x = 0 ∧ k = 3) ∨ (x = 17 ∧ k = 1) ∨ (x = 17 ∧ k = 3) ∨ (x = 17 ∧ k = 9) ∨ (x = 17 ∧ k = 10) ∨ (x = 17 ∧ k = 11) ∨ (x = 25 ∧ k = 1) ∨ (x = 27 ∧ k = 1) ∨ (x = 29 ∧ k = 1)) from h9.elim (fun e9 => Or.inr (show (x = 0 ∧ k = 3) ∨ (x = 17 ∧ k = 1) ∨ (x = 17 ∧ k = 3) ∨ (x = 17 ∧ k = 9) ∨ (x = 17 ∧ k = 10) ∨ (x = 17 ∧ k = 11) ∨ (x = 25 ∧ k = 1) ∨ (x = 27 ∧ k = 1) ∨ (x = 29 ∧ k = 1) from Or.inr (Or.inr (Or.inr (Or.inr (Or.inr (Or.inr (Or.inr (Or.inl (e9)))))))))) (fun h9 => h9.elim (fun e9 => Or.inr (show (x = 0 ∧ k = 3) ∨ (x = 17 ∧ k = 1) ∨ (x = 17 ∧ k = 3) ∨ (x = 17 ∧ k = 9) ∨ (x = 17 ∧ k = 10) ∨ (x = 17 ∧ k = 11) ∨ (x = 25 ∧ k = 1) ∨ (x = 27 ∧ k = 1) ∨ (x = 29 ∧ k = 1) from Or.inr (Or.inr (Or.inr (Or.inr (Or.inr (Or.inr (Or.inr (Or.inr (e9)))))))))) (fun h9 => Or.inr (show (x = 0 ∧ k = 3) ∨ (x = 17 ∧ k = 1) ∨ (x = 17 ∧ k = 3) ∨ (x = 17 ∧ k = 9) ∨ (x = 17 ∧ k = 10) ∨ (x = 17 ∧ k = 11) ∨ (x = 25 ∧ k = 1) ∨ (x = 27 ∧ k = 1) ∨ (x = 29 ∧ k = 1) from Or.inr (Or.inr (Or.inr (Or.inr (Or.inr (Or.inr (Or.inl (h9))))))))))))
  have k_28 : (gi σ2 0 3).toInt = (gi σ1 0 3).toInt := congrArg Int32.toInt (FX_i cσ2 (show ¬ (0 = 28 ∨ 0 = 30 ∨ 0 = 26) from by omega) (show ¬ ((0 = 27 ∧ 3 = 1) ∨ (0 = 29 ∧ 3 = 1) ∨ (0 = 25 ∧ 3 = 1)) from by omega))
  have k_29 : (gi σ2 1 1).toInt = (gi σ1 1 1).toInt := congrArg Int32.toInt (FX_i cσ2 (show ¬ (1 = 28 ∨ 1 = 30 ∨ 1 = 26) from by omega) (show ¬ ((1 = 27 ∧ 1 = 1) ∨ (1 = 29 ∧ 1 = 1) ∨ (1 = 25 ∧ 1 = 1)) from by omega))
  have k_30 : (gi σ2 1 3).toInt = (gi σ1 1 3).toInt := congrArg Int32.toInt (FX_i cσ2 (show ¬ (1 = 28 ∨ 1 = 30 ∨ 1 = 26) from by omega) (show ¬ ((1 = 27 ∧ 3 = 1) ∨ (1 = 29 ∧ 3 = 1) ∨ (1 = 25 ∧ 3 = 1)) from by omega))
  have k_31 : (gi σ2 1 9).toInt = (gi σ1 1 9).toInt := congrArg Int32.toInt (FX_i cσ2 (show ¬ (1 = 28 ∨ 1 = 30 ∨ 1 = 26) from by omega) (show ¬ ((1 = 27 ∧ 9 = 1) ∨ (1 = 29 ∧ 9 = 1) ∨ (1 = 25 ∧ 9 = 1)) from by omega))
  have k_32 : (gi σ2 11 1).toInt = (gi σ1 11 1).toInt := congrArg Int32.toInt (FX_i cσ2 (show ¬ (11 = 28 ∨ 11 = 30 ∨ 11 = 26) from by omega) (show ¬ ((11 = 27 ∧ 1 = 1) ∨ (11 = 29 ∧ 1 = 1) ∨ (11 = 25 ∧ 1 = 1)) from by omega))
  have k_33 : (gi σ2 13 1).toInt = (gi σ1 13 1).toInt := congrArg Int32.toInt (FX_i cσ2 (show ¬ (13 = 28 ∨ 13 = 30 ∨ 13 = 26) from by omega) (show ¬ ((13 = 27 ∧ 1 = 1) ∨ (13 = 29 ∧ 1 = 1) ∨ (13 = 25 ∧ 1 = 1)) from by omega))
  have k_34 : (gi σ2 17 1).toInt = (gi σ1 17 1).toInt := congrArg Int32.toInt (FX_i cσ2 (show ¬ (17 = 28 ∨ 17 = 30 ∨ 17 = 26) from by omega) (show ¬ ((17 = 27 ∧ 1 = 1) ∨ (17 = 29 ∧ 1 = 1) ∨ (17 = 25 ∧ 1 = 1)) from by omega))
  have k_35 : (gi σ2 17 3).toInt = (gi σ1 17 3).toInt := congrArg Int32.toInt (FX_i cσ2 (show ¬ (17 = 28 ∨ 17 = 30 ∨ 17 = 26) from by omega) (show ¬ ((17 = 27 ∧ 3 = 1) ∨ (17 = 29 ∧ 3 = 1) ∨ (17 = 25 ∧ 3 = 1)) from by omega))
  have k_36 : (gi σ2 17 9).toInt = (gi σ1 17 9).toInt := congrArg Int32.toInt (FX_i cσ2 (show ¬ (17 = 28 ∨ 17 = 30 ∨ 17 = 26) from by omega) (show ¬ ((17 = 27 ∧ 9 = 1) ∨ (17 = 29 ∧ 9 = 1) ∨ (17 = 25 ∧ 9 = 1)) from by omega))
  have t_37 := XI_c1 mσ2 (id := 25) (k := 1) (lim_C8_1 (Or.inr (Or.inl rfl)))
  have t_38 := XI_c1 mσ2 (id := 27) (k := 1) (lim_C10_1 (Or.inr (Or.inl rfl)))
  have t_39 := XI_c1 mσ2 (id := 29) (k := 1) (lim_C12_1 (Or.inr (Or.inl rfl)))
  have k_40 : (gi σ2 9 1).toInt = (gi σ1 9 1).toInt := congrArg Int32.toInt (FX_i cσ2 (show ¬ (9 = 28 ∨ 9 = 30 ∨ 9 = 26) from by omega) (show ¬ ((9 = 27 ∧ 1 = 1) ∨ (9 = 29 ∧ 1 = 1) ∨ (9 = 25 ∧ 1 = 1)) from by omega))
  have nσ2_1 : NN σ2 1 := NN_fx nσ1_1 cσ2 (show ¬ (1 = 28 ∨ 1 = 30 ∨ 1 = 26) from by omega) (show ¬ (2 = 28 ∨ 2 = 30 ∨ 2 = 26) from by omega) (show ¬ (3 = 28 ∨ 3 = 30 ∨ 3 = 26) from by omega) (show ¬ ((1 = 27 ∧ 1 = 1) ∨ (1 = 29 ∧ 1 = 1) ∨ (1 = 25 ∧ 1 = 1)) from by omega) (show ¬ ((1 = 27 ∧ 3 = 1) ∨ (1 = 29 ∧ 3 = 1) ∨ (1 = 25 ∧ 3 = 1)) from by omega) (fun k (h9 : (2 = 27 ∧ k = 1) ∨ (2 = 29 ∧ k = 1) ∨ (2 = 25 ∧ k = 1)) => by omega) (fun k (h9 : (3 = 27 ∧ k = 1) ∨ (3 = 29 ∧ k = 1) ∨ (3 = 25 ∧ k = 1)) => by omega)
  have nσ2_17 : NN σ2 17 := NN_fx nσ1_17 cσ2 (show ¬ (17 = 28 ∨ 17 = 30 ∨ 17 = 26) from by omega) (show ¬ (18 = 28 ∨ 18 = 30 ∨ 18 = 26) from by omega) (show ¬ (19 = 28 ∨ 19 = 30 ∨ 19 = 26) from by omega) (show ¬ ((17 = 27 ∧ 1 = 1) ∨ (17 = 29 ∧ 1 = 1) ∨ (17 = 25 ∧ 1 = 1)) from by omega) (show ¬ ((17 = 27 ∧ 3 = 1) ∨ (17 = 29 ∧ 3 = 1) ∨ (17 = 25 ∧ 3 = 1)) from by omega) (fun k (h9 : (18 = 27 ∧ k = 1) ∨ (18 = 29 ∧ k = 1) ∨ (18 = 25 ∧ k = 1)) => by omega) (fun k (h9 : (19 = 27 ∧ k = 1) ∨ (19 = 29 ∧ k = 1) ∨ (19 = 25 ∧ k = 1)) => by omega)
  have cy8 : CPY σ0 σ2 17 1 := CPY_fx cy9 cσ2 (by intro id h8 h9; first | omega | exact h9.elim) (by intro id k h8 h9; first | omega | exact h9.elim)
  intro σ3 eσ3
  replace H := f_l eσ3 H
  have mσ3 : XI (mV M) σ3 := by rw [eσ3]; exact XIs_b mσ2 (rfl) (by omega) (by omega)
  have fσ3 : FX (fun id => id = 18 ∨ id = 19 ∨ id = 20 ∨ id = 21 ∨ id = 22 ∨ id = 23 ∨ id = 24 ∨ id = 26 ∨ id = 28 ∨ id = 30) (fun id k => (id = 0 ∧ k = 3) ∨ (id = 17 ∧ k = 1) ∨ (id = 17 ∧ k = 3) ∨ (id = 17 ∧ k = 9) ∨ (id = 17 ∧ k = 10) ∨ (id = 17 ∧ k = 11) ∨ (id = 25 ∧ k = 1) ∨ (id = 27 ∧ k = 1) ∨ (id = 29 ∧ k = 1)) σ0 σ3 := by rw [eσ3]; exact FX_si fσ2 (Or.inr (show (0 = 0 ∧ 3 = 3) ∨ (0 = 17 ∧ 3 = 1) ∨ (0 = 17 ∧ 3 = 3) ∨ (0 = 17 ∧ 3 = 9) ∨ (0 = 17 ∧ 3 = 10) ∨ (0 = 17 ∧ 3 = 11) ∨ (0 = 25 ∧ 3 = 1) ∨ (0 = 27 ∧ 3 = 1) ∨ (0 = 29 ∧ 3 = 1) from Or.inl (⟨rfl, rfl⟩)))
  have k_41 : (gi σ3 0 3).toInt = 1 := by rw [eσ3]; exact congrArg Int32.toInt gi_si_eq
  have k_42 : (gi σ3 1 1).toInt = (gi σ2 1 1).toInt := by rw [eσ3]; exact congrArg Int32.toInt (gi_si_ne (Or.inl (by omega)))
  have k_43 : (gi σ3 1 3).toInt = (gi σ2 1 3).toInt := by rw [eσ3]; exact congrArg Int32.toInt (gi_si_ne (Or.inl (by omega)))
  have k_44 : (gi σ3 1 9).toInt = (gi σ2 1 9).toInt := by rw [eσ3]; exact congrArg Int32.toInt (gi_si_ne (Or.inl (by omega)))
  have k_45 : (gi σ3 11 1).toInt = (gi σ2 11 1).toInt := by rw [eσ3]; exact congrArg Int32.toInt (gi_si_ne (Or.inl (by omega)))
  have k_46 : (gi σ3 13 1).toInt = (gi σ2 13 1).toInt := by rw [eσ3]; exact congrArg Int32.toInt (gi_si_ne (Or.inl (by omega)))
  have k_47 : (gi σ3 17 1).toInt = (gi σ2 17 1).toInt := by rw [eσ3]; exact congrArg Int32.toInt (gi_si_ne (Or.inl (by omega)))
  have k_48 : (gi σ3 17 3).toInt = (gi σ2 17 3).toInt := by rw [eσ3]; exact congrArg Int32.toInt (gi_si_ne (Or.inl (by omega)))
  have k_49 : (gi σ3 17 9).toInt = (gi σ2 17 9).toInt := by rw [eσ3]; exact congrArg Int32.toInt (gi_si_ne (Or.inl (by omega)))
  have k_50 : (gi σ3 25 1).toInt = (gi σ2 25 1).toInt := by rw [eσ3]; exact congrArg Int32.toInt (gi_si_ne (Or.inl (by omega)))
  have k_51 : (gi σ3 27 1).toInt = (gi σ2 27 1).toInt := by rw [eσ3]; exact congrArg Int32.toInt (gi_si_ne (Or.inl (by omega)))
  have k_52 : (gi σ3 29 1).toInt = (gi σ2 29 1).toInt := by rw [eσ3]; exact congrArg Int32.toInt (gi_si_ne (Or.inl (by omega)))
  have k_53 : (gi σ3 9 1).toInt = (gi σ2 9 1).toInt := by rw [eσ3]; exact congrArg Int32.toInt (gi_si_ne (Or.inl (by omega)))
  have nσ3_1 : NN σ3 1 := by rw [eσ3]; exact NN_si nσ2_1 (by omega) (fun h9 => absurd h9 (by omega))
  have nσ3_17 : NN σ3 17 := by rw [eσ3]; exact NN_si nσ2_17 (by omega) (fun h9 => absurd h9 (by omega))
  have cy8 : CPY σ0 σ3 17 1 := by rw [eσ3]; exact CPY_si cy8 (by decide +kernel)
  have t_54 := XI_c1 mσ3 (id := 1) (k := 1) (lim_C0_1 (Or.inl rfl))
  exact h9ret (gi σ3 1 1) σ3 mσ3 fσ3 nσ3_1 nσ3_17 (by first | with_reducible assumption | with_reducible rfl | omega | assumption | rfl) (by first | with_reducible assumption | with_reducible rfl | omega | assumption | rfl) (by first | with_reducible assumption | with_reducible rfl | omega | assumption | rfl) (by first | with_reducible assumption | with_reducible rfl | omega | assumption | rfl) (by first | assumption | exact fun _ => by assumption | exact fun h9 => absurd (by first | with_reducible assumption | assumption) h9) (by first | with_reducible assumption | with_reducible rfl | omega | assumption | rfl) (by first | with_reducible assumption | with_reducible rfl | omega | assumption | rfl) (by first | with_reducible assumption | with_reducible rfl | omega | assumption | rfl) (by first | with_reducible assumption | with_reducible rfl | omega | assumption | rfl) (H0.trans H.symm)
set_option maxRecDepth 100000 in
set_option maxHeartbeats 4000000 in
theorem kH_X11_undo {l : Launch} {V : Vx} {σ0 : Sg} {Qk : Int32 → Sg → Prop} (m0 : XI V σ0) (nn_1 : NN σ0 1) (nn_17 : NN σ0 17) (pre0 : (gi σ0 1 9).toInt ≤ 9999) (pre1 : (gi σ0 17 9).toInt ≤ 9999) (pre2 : (gi σ0 1 3).toInt = (gi σ0 1 1).toInt) (pre3 : (gi σ0 17 3).toInt = (gi σ0 17 1).toInt) (pre4 : (gi σ0 9 1).toInt % 3 = 0) (pre5 : (gi σ0 25 1).toInt % 3 = 0) (h9ret : ∀ (r : Int32) (σ' : Sg), XI V σ' → FX (fun id => id = 10 ∨ id = 12 ∨ id = 14 ∨ id = 2 ∨ id = 3 ∨ id = 4 ∨ id = 5 ∨ id = 6 ∨ id = 7 ∨ id = 8) (fun id k => (id = 1 ∧ k = 1) ∨ (id = 1 ∧ k = 3) ∨ (id = 1 ∧ k = 9) ∨ (id = 1 ∧ k = 10) ∨ (id = 1 ∧ k = 11) ∨ (id = 11 ∧ k = 1) ∨ (id = 13 ∧ k = 1) ∨ (id = 9 ∧ k = 1)) σ0 σ' → (NN σ' 1) → (NN σ' 17) → ((gi σ' 1 9).toInt ≤ 9999) → ((gi σ' 1 3).toInt = (gi σ' 1 1).toInt) → ((gi σ' 9 1).toInt % 3 = 0) → ((gi σ0 0 3).toInt ≠ 0 → CPY σ0 σ' 1 17) → ((gi σ0 0 3).toInt = 0 → σ' = σ0) → (((gi σ0 0 3).toInt = 0 → r.toInt = -3 ∧ (gi σ' 1 1).toInt = (gi σ0 1 1).toInt ∧ (gi σ' 11 1).toInt = (gi σ0 11 1).toInt ∧ (gi σ' 13 1).toInt = (gi σ0 13 1).toInt ∧ (gi σ' 1 9).toInt = (gi σ0 1 9).toInt ∧ (gi σ' 9 1).toInt = (gi σ0 9 1).toInt) ∧ ((gi σ0 0 3).toInt ≠ 0 → r.toInt = (gi σ0 17 1).toInt ∧ (gi σ' 1 1).toInt = (gi σ0 17 1).toInt ∧ (gi σ' 11 1).toInt = (gi σ0 27 1).toInt ∧ (gi σ' 13 1).toInt = (gi σ0 29 1).toInt ∧ (gi σ' 1 9).toInt = (gi σ0 17 9).toInt ∧ (gi σ' 9 1).toInt = (gi σ0 25 1).toInt)) → (F_X11_undo σ0 = (r, σ')) → Qk r σ') : K_X11_undo l V σ0 Qk := by
  refine e_X11_undo (fun M hl hV hN C => ?_)
  subst hl
  subst hV
  obtain ⟨R9, H0⟩ : ∃ R9, F_X11_undo σ0 = R9 := ⟨_, rfl⟩
  have f0 : FX (fun id => id = 10 ∨ id = 12 ∨ id = 14 ∨ id = 2 ∨ id = 3 ∨ id = 4 ∨ id = 5 ∨ id = 6 ∨ id = 7 ∨ id = 8) (fun id k => (id = 1 ∧ k = 1) ∨ (id = 1 ∧ k = 3) ∨ (id = 1 ∧ k = 9) ∨ (id = 1 ∧ k = 10) ∨ (id = 1 ∧ k = 11) ∨ (id = 11 ∧ k = 1) ∨ (id = 13 ∧ k = 1) ∨ (id = 9 ∧ k = 1)) σ0 σ0 := FX_rf
  have t_1 := XI_c1 m0 (id := 0) (k := 3) (rfl)
  have t_2 := XI_c1 m0 (id := 1) (k := 1) (lim_C0_1 (Or.inl rfl))
  have t_3 := XI_c1 m0 (id := 1) (k := 3) (lim_C0_3 (Or.inl rfl))
  have t_4 := XI_c1 m0 (id := 1) (k := 9) (lim_C0_9 (Or.inl rfl))
  have t_5 := XI_c1 m0 (id := 11) (k := 1) (lim_C10_1 (Or.inl rfl))
  have t_6 := XI_c1 m0 (id := 13) (k := 1) (lim_C12_1 (Or.inl rfl))
  have t_7 := XI_c1 m0 (id := 17) (k := 1) (lim_C0_1 (Or.inr (Or.inl rfl)))
  have t_8 := XI_c1 m0 (id := 17) (k := 3) (lim_C0_3 (Or.inr (Or.inl rfl)))
  have t_9 := XI_c1 m0 (id := 17) (k := 9) (lim_C0_9 (Or.inr (Or.inl rfl)))
  have t_10 := XI_c1 m0 (id := 25) (k := 1) (lim_C8_1 (Or.inr (Or.inl rfl)))
  have t_11 := XI_c1 m0 (id := 27) (k := 1) (lim_C10_1 (Or.inr (Or.inl rfl)))
  have t_12 := XI_c1 m0 (id := 29) (k := 1) (lim_C12_1 (Or.inr (Or.inl rfl)))
  have t_13 := XI_c1 m0 (id := 9) (k := 1) (lim_C8_1 (Or.inl rfl))
  have H := H0
  unfold F_X11_undo at H
  refine s_X11_undo_0 C hN  ?_
  refine ⟨?_, ?_⟩
  · intro q_14
    replace H := f_f q_14 H
    have b_15 : ¬ (gi σ0 0 3).toInt = 0 := fun h9 => q_14 (Int32.toInt_inj.mp h9)
    have z_16 : (17 : Int32).toInt = 17 := rfl
    refine kF_X1_becomes (Or.inl rfl) (Or.inr (Or.inl rfl)) m0 nn_17 (by first | with_reducible assumption | with_reducible rfl | omega | assumption | rfl) (fun σ2 mσ2 cσ2 nσ2_17 nσ2_1 (pσ2_0 : (gi σ2 1 1).toInt = (gi σ0 17 1).toInt) (pσ2_1 : (gi σ2 1 3).toInt = (gi σ0 17 3).toInt) (pσ2_2 : (gi σ2 1 9).toInt = (gi σ0 17 9).toInt) (pσ2_3 : CPY σ0 σ2 1 17) hσ2 => ?_)
    replace H := f_v hσ2 H
    have fσ2 : FX (fun id => id = 10 ∨ id = 12 ∨ id = 14 ∨ id = 2 ∨ id = 3 ∨ id = 4 ∨ id = 5 ∨ id = 6 ∨ id = 7 ∨ id = 8) (fun id k => (id = 1 ∧ k = 1) ∨ (id = 1 ∧ k = 3) ∨ (id = 1 ∧ k = 9) ∨ (id = 1 ∧ k = 10) ∨ (id = 1 ∧ k = 11) ∨ (id = 11 ∧ k = 1) ∨ (id = 13 ∧ k = 1) ∨ (id = 9 ∧ k = 1)) σ0 σ2 := FX_tr f0 cσ2 (fun x (h9 : x = 2 ∨ x = 3 ∨ x = 4 ∨ x = 5 ∨ x = 6 ∨ x = 7 ∨ x = 8) => h9.elim (fun e9 => (show x = 10 ∨ x = 12 ∨ x = 14 ∨ x = 2 ∨ x = 3 ∨ x = 4 ∨ x = 5 ∨ x = 6 ∨ x = 7 ∨ x = 8 from Or.inr (Or.inr (Or.inr (Or.inl (e9)))))) (fun h9 => h9.elim (fun e9 => (show x = 10 ∨ x = 12 ∨ x = 14 ∨ x = 2 ∨ x = 3 ∨ x = 4 ∨ x = 5 ∨ x = 6 ∨ x = 7 ∨ x = 8 from Or.inr (Or.inr (Or.inr (Or.inr (Or.inl (e9))))))) (fun h9 => h9.elim (fun e9 => (show x = 10 ∨ x = 12 ∨ x = 14 ∨ x = 2 ∨ x = 3 ∨ x = 4 ∨ x = 5 ∨ x = 6 ∨ x = 7 ∨ x = 8 from Or.inr (Or.inr (Or.inr (Or.inr (Or.inr (Or.inl (e9)))))))) (fun h9 => h9.elim (fun e9 => (show x = 10 ∨ x = 12 ∨ x = 14 ∨ x = 2 ∨ x = 3 ∨ x = 4 ∨ x = 5 ∨ x = 6 ∨ x = 7 ∨ x = 8 from Or.inr (Or.inr (Or.inr (Or.inr (Or.inr (Or.inr (Or.inl (e9))))))))) (fun h9 => h9.elim (fun e9 => (show x = 10 ∨ x = 12 ∨ x = 14 ∨ x = 2 ∨ x = 3 ∨ x = 4 ∨ x = 5 ∨ x = 6 ∨ x = 7 ∨ x = 8 from Or.inr (Or.inr (Or.inr (Or.inr (Or.inr (Or.inr (Or.inr (Or.inl (e9)))))))))) (fun h9 => h9.elim (fun e9 => (show x = 10 ∨ x = 12 ∨ x = 14 ∨ x = 2 ∨ x = 3 ∨ x = 4 ∨ x = 5 ∨ x = 6 ∨ x = 7 ∨ x = 8 from Or.inr (Or.inr (Or.inr (Or.inr (Or.inr (Or.inr (Or.inr (Or.inr (Or.inl (e9))))))))))) (fun h9 => (show x = 10 ∨ x = 12 ∨ x = 14 ∨ x = 2 ∨ x = 3 ∨ x = 4 ∨ x = 5 ∨ x = 6 ∨ x = 7 ∨ x = 8 from Or.inr (Or.inr (Or.inr (Or.inr (Or.inr (Or.inr (Or.inr (Or.inr (Or.inr (h9))))))))))))))))) (fun x k (h9 : (x = 1 ∧ k = 1) ∨ (x = 1 ∧ k = 3) ∨ (x = 1 ∧ k = 9) ∨ (x = 1 ∧ k = 10) ∨ (x = 1 ∧ k = 11)) => (show (x = 10 ∨ x = 12 ∨ x = 14 ∨ x = 2 ∨ x = 3 ∨ x = 4 ∨ x = 5 ∨ x = 6 ∨ x = 7 ∨ x = 8) ∨ ((x = 1 ∧ k = 1) ∨ (x = 1 ∧ k = 3) ∨ (x = 1 ∧ k = 9) ∨ (x = 1 ∧ k = 10) ∨ (x = 1 ∧ k = 11) ∨ (x = 11 ∧ k = 1) ∨ (x = 13 ∧ k = 1) ∨ (x = 9 ∧ k = 1)) from h9.elim (fun e9 => Or.inr (show (x = 1 ∧ k = 1) ∨ (x = 1 ∧ k = 3) ∨ (x = 1 ∧ k = 9) ∨ (x = 1 ∧ k = 10) ∨ (x = 1 ∧ k = 11) ∨ (x = 11 ∧ k = 1) ∨ (x = 13 ∧ k = 1) ∨ (x = 9 ∧ k = 1) from Or.inl (e9))) (fun h9 => h9.elim (fun e9 => Or.inr (show (x = 1 ∧ k = 1) ∨ (x = 1 ∧ k = 3) ∨ (x = 1 ∧ k = 9) ∨ (x = 1 ∧ k = 10) ∨ (x = 1 ∧ k = 11) ∨ (x = 11 ∧ k = 1) ∨ (x = 13 ∧ k = 1) ∨ (x = 9 ∧ k = 1) from Or.inr (Or.inl (e9)))) (fun h9 => h9.elim (fun e9 => Or.inr (show (x = 1 ∧ k = 1) ∨ (x = 1 ∧ k = 3) ∨ (x = 1 ∧ k = 9) ∨ (x = 1 ∧ k = 10) ∨ (x = 1 ∧ k = 11) ∨ (x = 11 ∧ k = 1) ∨ (x = 13 ∧ k = 1) ∨ (x = 9 ∧ k = 1) from Or.inr (Or.inr (Or.inl (e9))))) (fun h9 => h9.elim (fun e9 => Or.inr (show (x = 1 ∧ k = 1) ∨ (x = 1 ∧ k = 3) ∨ (x = 1 ∧ k = 9) ∨ (x = 1 ∧ k = 10) ∨ (x = 1 ∧ k = 11) ∨ (x = 11 ∧ k = 1) ∨ (x = 13 ∧ k = 1) ∨ (x = 9 ∧ k = 1) from Or.inr (Or.inr (Or.inr (Or.inl (e9)))))) (fun h9 => Or.inr (show (x = 1 ∧ k = 1) ∨ (x = 1 ∧ k = 3) ∨ (x = 1 ∧ k = 9) ∨ (x = 1 ∧ k = 10) ∨ (x = 1 ∧ k = 11) ∨ (x = 11 ∧ k = 1) ∨ (x = 13 ∧ k = 1) ∨ (x = 9 ∧ k = 1) from Or.inr (Or.inr (Or.inr (Or.inr (Or.inl (h9))))))))))))
    have k_17 : (gi σ2 0 3).toInt = (gi σ0 0 3).toInt := congrArg Int32.toInt (FX_i cσ2 (show ¬ (0 = 2 ∨ 0 = 3 ∨ 0 = 4 ∨ 0 = 5 ∨ 0 = 6 ∨ 0 = 7 ∨ 0 = 8) from by omega) (show ¬ ((0 = 1 ∧ 3 = 1) ∨ (0 = 1 ∧ 3 = 3) ∨ (0 = 1 ∧ 3 = 9) ∨ (0 = 1 ∧ 3 = 10) ∨ (0 = 1 ∧ 3 = 11)) from by omega))
    have t_18 := XI_c1 mσ2 (id := 1) (k := 1) (lim_C0_1 (Or.inl rfl))
    have t_19 := XI_c1 mσ2 (id := 1) (k := 3) (lim_C0_3 (Or.inl rfl))
    have t_20 := XI_c1 mσ2 (id := 1) (k := 9) (lim_C0_9 (Or.inl rfl))
    have k_21 : (gi σ2 11 1).toInt = (gi σ0 11 1).toInt := congrArg Int32.toInt (FX_i cσ2 (show ¬ (11 = 2 ∨ 11 = 3 ∨ 11 = 4 ∨ 11 = 5 ∨ 11 = 6 ∨ 11 = 7 ∨ 11 = 8) from by omega) (show ¬ ((11 = 1 ∧ 1 = 1) ∨ (11 = 1 ∧ 1 = 3) ∨ (11 = 1 ∧ 1 = 9) ∨ (11 = 1 ∧ 1 = 10) ∨ (11 = 1 ∧ 1 = 11)) from by omega))
    have k_22 : (gi σ2 13 1).toInt = (gi σ0 13 1).toInt := congrArg Int32.toInt (FX_i cσ2 (show ¬ (13 = 2 ∨ 13 = 3 ∨ 13 = 4 ∨ 13 = 5 ∨ 13 = 6 ∨ 13 = 7 ∨ 13 = 8) from by omega) (show ¬ ((13 = 1 ∧ 1 = 1) ∨ (13 = 1 ∧ 1 = 3) ∨ (13 = 1 ∧ 1 = 9) ∨ (13 = 1 ∧ 1 = 10) ∨ (13 = 1 ∧ 1 = 11)) from by omega))
    have k_23 : (gi σ2 17 1).toInt = (gi σ0 17 1).toInt := congrArg Int32.toInt (FX_i cσ2 (show ¬ (17 = 2 ∨ 17 = 3 ∨ 17 = 4 ∨ 17 = 5 ∨ 17 = 6 ∨ 17 = 7 ∨ 17 = 8) from by omega) (show ¬ ((17 = 1 ∧ 1 = 1) ∨ (17 = 1 ∧ 1 = 3) ∨ (17 = 1 ∧ 1 = 9) ∨ (17 = 1 ∧ 1 = 10) ∨ (17 = 1 ∧ 1 = 11)) from by omega))
    have k_24 : (gi σ2 17 3).toInt = (gi σ0 17 3).toInt := congrArg Int32.toInt (FX_i cσ2 (show ¬ (17 = 2 ∨ 17 = 3 ∨ 17 = 4 ∨ 17 = 5 ∨ 17 = 6 ∨ 17 = 7 ∨ 17 = 8) from by omega) (show ¬ ((17 = 1 ∧ 3 = 1) ∨ (17 = 1 ∧ 3 = 3) ∨ (17 = 1 ∧ 3 = 9) ∨ (17 = 1 ∧ 3 = 10) ∨ (17 = 1 ∧ 3 = 11)) from by omega))
    have k_25 : (gi σ2 17 9).toInt = (gi σ0 17 9).toInt := congrArg Int32.toInt (FX_i cσ2 (show ¬ (17 = 2 ∨ 17 = 3 ∨ 17 = 4 ∨ 17 = 5 ∨ 17 = 6 ∨ 17 = 7 ∨ 17 = 8) from by omega) (show ¬ ((17 = 1 ∧ 9 = 1) ∨ (17 = 1 ∧ 9 = 3) ∨ (17 = 1 ∧ 9 = 9) ∨ (17 = 1 ∧ 9 = 10) ∨ (17 = 1 ∧ 9 = 11)) from by omega))
    have k_26 : (gi σ2 25 1).toInt = (gi σ0 25 1).toInt := congrArg Int32.toInt (FX_i cσ2 (show ¬ (25 = 2 ∨ 25 = 3 ∨ 25 = 4 ∨ 25 = 5 ∨ 25 = 6 ∨ 25 = 7 ∨ 25 = 8) from by omega) (show ¬ ((25 = 1 ∧ 1 = 1) ∨ (25 = 1 ∧ 1 = 3) ∨ (25 = 1 ∧ 1 = 9) ∨ (25 = 1 ∧ 1 = 10) ∨ (25 = 1 ∧ 1 = 11)) from by omega))
    have k_27 : (gi σ2 27 1).toInt = (gi σ0 27 1).toInt := congrArg Int32.toInt (FX_i cσ2 (show ¬ (27 = 2 ∨ 27 = 3 ∨ 27 = 4 ∨ 27 = 5 ∨ 27 = 6 ∨ 27 = 7 ∨ 27 = 8) from by omega) (show ¬ ((27 = 1 ∧ 1 = 1) ∨ (27 = 1 ∧ 1 = 3) ∨ (27 = 1 ∧ 1 = 9) ∨ (27 = 1 ∧ 1 = 10) ∨ (27 = 1 ∧ 1 = 11)) from by omega))
    have k_28 : (gi σ2 29 1).toInt = (gi σ0 29 1).toInt := congrArg Int32.toInt (FX_i cσ2 (show ¬ (29 = 2 ∨ 29 = 3 ∨ 29 = 4 ∨ 29 = 5 ∨ 29 = 6 ∨ 29 = 7 ∨ 29 = 8) from by omega) (show ¬ ((29 = 1 ∧ 1 = 1) ∨ (29 = 1 ∧ 1 = 3) ∨ (29 = 1 ∧ 1 = 9) ∨ (29 = 1 ∧ 1 = 10) ∨ (29 = 1 ∧ 1 = 11)) from by omega))
    have k_29 : (gi σ2 9 1).toInt = (gi σ0 9 1).toInt := congrArg Int32.toInt (FX_i cσ2 (show ¬ (9 = 2 ∨ 9 = 3 ∨ 9 = 4 ∨ 9 = 5 ∨ 9 = 6 ∨ 9 = 7 ∨ 9 = 8) from by omega) (show ¬ ((9 = 1 ∧ 1 = 1) ∨ (9 = 1 ∧ 1 = 3) ∨ (9 = 1 ∧ 1 = 9) ∨ (9 = 1 ∧ 1 = 10) ∨ (9 = 1 ∧ 1 = 11)) from by omega))
    have cy9 : CPY σ0 σ2 1 17 := by assumption
    refine kF_X1_becomesTold (Or.inl rfl) (Or.inr (Or.inl rfl)) mσ2  (by first | with_reducible assumption | with_reducible rfl | omega | assumption | rfl) (fun σ3 mσ3 cσ3 (pσ3_0 : (gi σ3 9 1).toInt = (gi σ2 25 1).toInt) (pσ3_1 : (gi σ3 11 1).toInt = (gi σ2 27 1).toInt) (pσ3_2 : (gi σ3 13 1).toInt = (gi σ2 29 1).toInt) hσ3 => ?_)
    replace H := f_v hσ3 H
    have fσ3 : FX (fun id => id = 10 ∨ id = 12 ∨ id = 14 ∨ id = 2 ∨ id = 3 ∨ id = 4 ∨ id = 5 ∨ id = 6 ∨ id = 7 ∨ id = 8) (fun id k => (id = 1 ∧ k = 1) ∨ (id = 1 ∧ k = 3) ∨ (id = 1 ∧ k = 9) ∨ (id = 1 ∧ k = 10) ∨ (id = 1 ∧ k = 11) ∨ (id = 11 ∧ k = 1) ∨ (id = 13 ∧ k = 1) ∨ (id = 9 ∧ k = 1)) σ0 σ3 := FX_tr fσ2 cσ3 (fun x (h9 : x = 12 ∨ x = 14 ∨ x = 10) => h9.elim (fun e9 => (show x = 10 ∨ x = 12 ∨ x = 14 ∨ x = 2 ∨ x = 3 ∨ x = 4 ∨ x = 5 ∨ x = 6 ∨ x = 7 ∨ x = 8 from Or.inr (Or.inl (e9)))) (fun h9 => h9.elim (fun e9 => (show x = 10 ∨ x = 12 ∨ x = 14 ∨ x = 2 ∨ x = 3 ∨ x = 4 ∨ x = 5 ∨ x = 6 ∨ x = 7 ∨ x = 8 from Or.inr (Or.inr (Or.inl (e9))))) (fun h9 => (show x = 10 ∨ x = 12 ∨ x = 14 ∨ x = 2 ∨ x = 3 ∨ x = 4 ∨ x = 5 ∨ x = 6 ∨ x = 7 ∨ x = 8 from Or.inl (h9))))) (fun x k (h9 : (x = 11 ∧ k = 1) ∨ (x = 13 ∧ k = 1) ∨ (x = 9 ∧ k = 1)) => (show (x = 10 ∨ x = 12 ∨ x = 14 ∨ x = 2 ∨ x = 3 ∨ x = 4 ∨ x = 5 ∨ x = 6 ∨ x = 7 ∨ x = 8) ∨ ((x = 1 ∧ k = 1) ∨ (x = 1 ∧ k = 3) ∨ (x = 1 ∧ k = 9) ∨ (x = 1 ∧ k = 10) ∨ (x = 1 ∧ k = 11) ∨ (x = 11 ∧ k = 1) ∨ (x = 13 ∧ k = 1) ∨ (x = 9 ∧ k = 1)) from h9.elim (fun e9 => Or.inr (show (x = 1 ∧ k = 1) ∨ (x = 1 ∧ k = 3) ∨ (x = 1 ∧ k = 9) ∨ (x = 1 ∧ k = 10) ∨ (x = 1 ∧ k = 11) ∨ (x = 11 ∧ k = 1) ∨ (x = 13 ∧ k = 1) ∨ (x = 9 ∧ k = 1) from Or.inr (Or.inr (Or.inr (Or.inr (Or.inr (Or.inl (e9)))))))) (fun h9 => h9.elim (fun e9 => Or.inr (show (x = 1 ∧ k = 1) ∨ (x = 1 ∧ k = 3) ∨ (x = 1 ∧ k = 9) ∨ (x = 1 ∧ k = 10) ∨ (x = 1 ∧ k = 11) ∨ (x = 11 ∧ k = 1) ∨ (x = 13 ∧ k = 1) ∨ (x = 9 ∧ k = 1) from Or.inr (Or.inr (Or.inr (Or.inr (Or.inr (Or.inr (Or.inl (e9))))))))) (fun h9 => Or.inr (show (x = 1 ∧ k = 1) ∨ (x = 1 ∧ k = 3) ∨ (x = 1 ∧ k = 9) ∨ (x = 1 ∧ k = 10) ∨ (x = 1 ∧ k = 11) ∨ (x = 11 ∧ k = 1) ∨ (x = 13 ∧ k = 1) ∨ (x = 9 ∧ k = 1) from Or.inr (Or.inr (Or.inr (Or.inr (Or.inr (Or.inr (Or.inr (h9))))))))))))
    have k_30 : (gi σ3 0 3).toInt = (gi σ2 0 3).toInt := congrArg Int32.toInt (FX_i cσ3 (show ¬ (0 = 12 ∨ 0 = 14 ∨ 0 = 10) from by omega) (show ¬ ((0 = 11 ∧ 3 = 1) ∨ (0 = 13 ∧ 3 = 1) ∨ (0 = 9 ∧ 3 = 1)) from by omega))
    have k_31 : (gi σ3 1 1).toInt = (gi σ2 1 1).toInt := congrArg Int32.toInt (FX_i cσ3 (show ¬ (1 = 12 ∨ 1 = 14 ∨ 1 = 10) from by omega) (show ¬ ((1 = 11 ∧ 1 = 1) ∨ (1 = 13 ∧ 1 = 1) ∨ (1 = 9 ∧ 1 = 1)) from by omega))
    have k_32 : (gi σ3 1 3).toInt = (gi σ2 1 3).toInt := congrArg Int32.toInt (FX_i cσ3 (show ¬ (1 = 12 ∨ 1 = 14 ∨ 1 = 10) from by omega) (show ¬ ((1 = 11 ∧ 3 = 1) ∨ (1 = 13 ∧ 3 = 1) ∨ (1 = 9 ∧ 3 = 1)) from by omega))
    have k_33 : (gi σ3 1 9).toInt = (gi σ2 1 9).toInt := congrArg Int32.toInt (FX_i cσ3 (show ¬ (1 = 12 ∨ 1 = 14 ∨ 1 = 10) from by omega) (show ¬ ((1 = 11 ∧ 9 = 1) ∨ (1 = 13 ∧ 9 = 1) ∨ (1 = 9 ∧ 9 = 1)) from by omega))
    have t_34 := XI_c1 mσ3 (id := 11) (k := 1) (lim_C10_1 (Or.inl rfl))
    have t_35 := XI_c1 mσ3 (id := 13) (k := 1) (lim_C12_1 (Or.inl rfl))
    have k_36 : (gi σ3 17 1).toInt = (gi σ2 17 1).toInt := congrArg Int32.toInt (FX_i cσ3 (show ¬ (17 = 12 ∨ 17 = 14 ∨ 17 = 10) from by omega) (show ¬ ((17 = 11 ∧ 1 = 1) ∨ (17 = 13 ∧ 1 = 1) ∨ (17 = 9 ∧ 1 = 1)) from by omega))
    have k_37 : (gi σ3 17 3).toInt = (gi σ2 17 3).toInt := congrArg Int32.toInt (FX_i cσ3 (show ¬ (17 = 12 ∨ 17 = 14 ∨ 17 = 10) from by omega) (show ¬ ((17 = 11 ∧ 3 = 1) ∨ (17 = 13 ∧ 3 = 1) ∨ (17 = 9 ∧ 3 = 1)) from by omega))
    have k_38 : (gi σ3 17 9).toInt = (gi σ2 17 9).toInt := congrArg Int32.toInt (FX_i cσ3 (show ¬ (17 = 12 ∨ 17 = 14 ∨ 17 = 10) from by omega) (show ¬ ((17 = 11 ∧ 9 = 1) ∨ (17 = 13 ∧ 9 = 1) ∨ (17 = 9 ∧ 9 = 1)) from by omega))
    have k_39 : (gi σ3 25 1).toInt = (gi σ2 25 1).toInt := congrArg Int32.toInt (FX_i cσ3 (show ¬ (25 = 12 ∨ 25 = 14 ∨ 25 = 10) from by omega) (show ¬ ((25 = 11 ∧ 1 = 1) ∨ (25 = 13 ∧ 1 = 1) ∨ (25 = 9 ∧ 1 = 1)) from by omega))
    have k_40 : (gi σ3 27 1).toInt = (gi σ2 27 1).toInt := congrArg Int32.toInt (FX_i cσ3 (show ¬ (27 = 12 ∨ 27 = 14 ∨ 27 = 10) from by omega) (show ¬ ((27 = 11 ∧ 1 = 1) ∨ (27 = 13 ∧ 1 = 1) ∨ (27 = 9 ∧ 1 = 1)) from by omega))
    have k_41 : (gi σ3 29 1).toInt = (gi σ2 29 1).toInt := congrArg Int32.toInt (FX_i cσ3 (show ¬ (29 = 12 ∨ 29 = 14 ∨ 29 = 10) from by omega) (show ¬ ((29 = 11 ∧ 1 = 1) ∨ (29 = 13 ∧ 1 = 1) ∨ (29 = 9 ∧ 1 = 1)) from by omega))
    have t_42 := XI_c1 mσ3 (id := 9) (k := 1) (lim_C8_1 (Or.inl rfl))
    have nσ3_17 : NN σ3 17 := NN_fx nσ2_17 cσ3 (show ¬ (17 = 12 ∨ 17 = 14 ∨ 17 = 10) from by omega) (show ¬ (18 = 12 ∨ 18 = 14 ∨ 18 = 10) from by omega) (show ¬ (19 = 12 ∨ 19 = 14 ∨ 19 = 10) from by omega) (show ¬ ((17 = 11 ∧ 1 = 1) ∨ (17 = 13 ∧ 1 = 1) ∨ (17 = 9 ∧ 1 = 1)) from by omega) (show ¬ ((17 = 11 ∧ 3 = 1) ∨ (17 = 13 ∧ 3 = 1) ∨ (17 = 9 ∧ 3 = 1)) from by omega) (fun k (h9 : (18 = 11 ∧ k = 1) ∨ (18 = 13 ∧ k = 1) ∨ (18 = 9 ∧ k = 1)) => by omega) (fun k (h9 : (19 = 11 ∧ k = 1) ∨ (19 = 13 ∧ k = 1) ∨ (19 = 9 ∧ k = 1)) => by omega)
    have nσ3_1 : NN σ3 1 := NN_fx nσ2_1 cσ3 (show ¬ (1 = 12 ∨ 1 = 14 ∨ 1 = 10) from by omega) (show ¬ (2 = 12 ∨ 2 = 14 ∨ 2 = 10) from by omega) (show ¬ (3 = 12 ∨ 3 = 14 ∨ 3 = 10) from by omega) (show ¬ ((1 = 11 ∧ 1 = 1) ∨ (1 = 13 ∧ 1 = 1) ∨ (1 = 9 ∧ 1 = 1)) from by omega) (show ¬ ((1 = 11 ∧ 3 = 1) ∨ (1 = 13 ∧ 3 = 1) ∨ (1 = 9 ∧ 3 = 1)) from by omega) (fun k (h9 : (2 = 11 ∧ k = 1) ∨ (2 = 13 ∧ k = 1) ∨ (2 = 9 ∧ k = 1)) => by omega) (fun k (h9 : (3 = 11 ∧ k = 1) ∨ (3 = 13 ∧ k = 1) ∨ (3 = 9 ∧ k = 1)) => by omega)
    have cy8 : CPY σ0 σ3 1 17 := CPY_fx cy9 cσ3 (by intro id h8 h9; first | omega | exact h9.elim) (by intro id k h8 h9; first | omega | exact h9.elim)
    have t_43 := XI_c1 mσ3 (id := 1) (k := 1) (lim_C0_1 (Or.inl rfl))
    exact h9ret (gi σ3 1 1) σ3 mσ3 fσ3 nσ3_1 nσ3_17 (by first | with_reducible assumption | with_reducible rfl | omega | assumption | rfl) (by first | with_reducible assumption | with_reducible rfl | omega | assumption | rfl) (by first | with_reducible assumption | with_reducible rfl | omega | assumption | rfl) (by first | assumption | exact fun _ => by assumption | exact fun h9 => absurd (by first | with_reducible assumption | assumption) h9) (by first | exact fun _ => rfl | exact fun h9 => absurd h9 (by first | with_reducible assumption | assumption)) (by first | with_reducible assumption | with_reducible rfl | omega | assumption | rfl) (H0.trans H.symm)
  · intro q_14
    replace H := f_t q_14 H
    have b_44 : (gi σ0 0 3).toInt = 0 := congrArg Int32.toInt q_14
    have z_45 : (-3 : Int32).toInt = -3 := rfl
    exact h9ret (-3 : Int32) σ0 m0 f0 nn_1 nn_17 (by first | with_reducible assumption | with_reducible rfl | omega | assumption | rfl) (by first | with_reducible assumption | with_reducible rfl | omega | assumption | rfl) (by first | with_reducible assumption | with_reducible rfl | omega | assumption | rfl) (by first | assumption | exact fun _ => by assumption | exact fun h9 => absurd (by first | with_reducible assumption | assumption) h9) (by first | exact fun _ => rfl | exact fun h9 => absurd h9 (by first | with_reducible assumption | assumption)) (by first | with_reducible assumption | with_reducible rfl | omega | assumption | rfl) (H0.trans H.symm)
/-! methods in words of INV, with what they are as functions -/
set_option maxHeartbeats 4000000 in
theorem L4_X11_see {l : Launch} {V : Vx} {a1 : Int32} {a2 : Int32} {a3 : Int32} {σ0 : Sg} {Qk : Int32 → Sg → Prop} (q : INV V σ0) (h9ret : ∀ (r : Int32) (σ' : Sg), INV V σ' → (FX (fun id => id = 10) (fun id k => (id = 9 ∧ k = 1)) σ0 σ') → ((gi σ' 9 1).toInt % 3 = 0) → (SEA r a1 a2 a3 (gi σ0 1 1).toInt ((gi σ0 9 1).toInt / 3) ((gi σ' 9 1).toInt / 3)) → (F_X11_see a1 a2 a3 σ0 = (r, σ')) → Qk r σ') : K_X11_see l V a1 a2 a3 σ0 Qk := by
  refine kH_X11_see q.1.1 q.1.2.2.2.2.2.2.2.1 (fun r σ' p0 p1 p2 p3 p4 => h9ret r σ' ?_ p1 p2 p3 p4)
  obtain ⟨⟨q1, q2, q3, q4, q5, q6, q7, q8, q9, q10⟩, qm⟩ := q
  exact ⟨⟨p0, NN_fx q2 p1 (by intro h9; (try dsimp only at h9) <;> first | exact h9 | omega) (by intro h9; (try dsimp only at h9) <;> first | exact h9 | omega) (by intro h9; (try dsimp only at h9) <;> first | exact h9 | omega) (by intro h9; (try dsimp only at h9) <;> first | exact h9 | omega) (by intro h9; (try dsimp only at h9) <;> first | exact h9 | omega) (fun k => (by intro h9; (try dsimp only at h9) <;> first | exact h9 | omega)) (fun k => (by intro h9; (try dsimp only at h9) <;> first | exact h9 | omega)), NN_fx q3 p1 (by intro h9; (try dsimp only at h9) <;> first | exact h9 | omega) (by intro h9; (try dsimp only at h9) <;> first | exact h9 | omega) (by intro h9; (try dsimp only at h9) <;> first | exact h9 | omega) (by intro h9; (try dsimp only at h9) <;> first | exact h9 | omega) (by intro h9; (try dsimp only at h9) <;> first | exact h9 | omega) (fun k => (by intro h9; (try dsimp only at h9) <;> first | exact h9 | omega)) (fun k => (by intro h9; (try dsimp only at h9) <;> first | exact h9 | omega)), by rw [FX_i p1 (id := 1) (k := 3) (by intro h9; (try dsimp only at h9) <;> first | exact h9 | omega) (by intro h9; (try dsimp only at h9) <;> first | exact h9 | omega), FX_i p1 (id := 1) (k := 1) (by intro h9; (try dsimp only at h9) <;> first | exact h9 | omega) (by intro h9; (try dsimp only at h9) <;> first | exact h9 | omega)]; exact q4, by rw [FX_i p1 (id := 17) (k := 3) (by intro h9; (try dsimp only at h9) <;> first | exact h9 | omega) (by intro h9; (try dsimp only at h9) <;> first | exact h9 | omega), FX_i p1 (id := 17) (k := 1) (by intro h9; (try dsimp only at h9) <;> first | exact h9 | omega) (by intro h9; (try dsimp only at h9) <;> first | exact h9 | omega)]; exact q5, by rw [FX_i p1 (id := 1) (k := 9) (by intro h9; (try dsimp only at h9) <;> first | exact h9 | omega) (by intro h9; (try dsimp only at h9) <;> first | exact h9 | omega)]; exact q6, by rw [FX_i p1 (id := 17) (k := 9) (by intro h9; (try dsimp only at h9) <;> first | exact h9 | omega) (by intro h9; (try dsimp only at h9) <;> first | exact h9 | omega)]; exact q7, p2, by rw [FX_i p1 (id := 25) (k := 1) (by intro h9; (try dsimp only at h9) <;> first | exact h9 | omega) (by intro h9; (try dsimp only at h9) <;> first | exact h9 | omega)]; exact q9, FI_fx p1 (by intro h9; (try dsimp only at h9) <;> first | exact h9 | omega) (fun k => (by intro h9; (try dsimp only at h9) <;> first | exact h9 | omega)) q10⟩, IVM_ag (MA_fx p1 (by intro id h9; (try dsimp only at h9) <;> omega) (by intro id k h9; (try dsimp only at h9) <;> first | exact h9.elim | omega)) qm⟩
set_option maxHeartbeats 4000000 in
theorem L4_X11_plan {l : Launch} {V : Vx} {a1 : Int32} {σ0 : Sg} {Qk : Int32 → Sg → Prop} (q : INV V σ0) (h9ret : ∀ (r : Int32) (σ' : Sg), INV V σ' → (FX (fun id => id = 12) (fun id k => (id = 11 ∧ k = 1)) σ0 σ') → (PBA r a1 (gi σ0 11 1) (gi σ' 11 1) (2) 10) → (F_X11_plan a1 σ0 = (r, σ')) → Qk r σ') : K_X11_plan l V a1 σ0 Qk := by
  refine kH_X11_plan q.1.1 (fun r σ' p0 p1 p2 p3 => h9ret r σ' ?_ p1 p2 p3)
  exact INV_fx (FX_tr FX_rf p1 (by intro id h9; (try dsimp only at h9) <;> unfold Sf <;> first | exact h9.elim | omega) (by intro id k h9; (try dsimp only at h9) <;> unfold Sf Ff <;> first | exact h9.elim | omega)) p0 q
set_option maxHeartbeats 4000000 in
theorem L4_X11_image {l : Launch} {V : Vx} {σ0 : Sg} {Qk : Int32 → Sg → Prop} (q : INV V σ0) (h9ret : ∀ (r : Int32) (σ' : Sg), INV V σ' → (FX (fun id => id = 18 ∨ id = 19 ∨ id = 20 ∨ id = 21 ∨ id = 22 ∨ id = 23 ∨ id = 24 ∨ id = 26 ∨ id = 28 ∨ id = 30) (fun id k => (id = 0 ∧ k = 3) ∨ (id = 17 ∧ k = 1) ∨ (id = 17 ∧ k = 3) ∨ (id = 17 ∧ k = 9) ∨ (id = 17 ∧ k = 10) ∨ (id = 17 ∧ k = 11) ∨ (id = 25 ∧ k = 1) ∨ (id = 27 ∧ k = 1) ∨ (id = 29 ∧ k = 1)) σ0 σ') → ((gi σ' 17 1).toInt = (gi σ0 1 1).toInt) → ((gi σ' 17 3).toInt = (gi σ0 1 3).toInt) → ((gi σ' 17 9).toInt = (gi σ0 1 9).toInt) → ((gi σ' 25 1).toInt = (gi σ0 9 1).toInt) → (CPY σ0 σ' 17 1) → ((gi σ' 27 1).toInt = (gi σ0 11 1).toInt) → ((gi σ' 29 1).toInt = (gi σ0 13 1).toInt) → ((gi σ' 0 3).toInt = 1) → (r.toInt = (gi σ0 1 1).toInt) → (F_X11_image σ0 = (r, σ')) → Qk r σ') : K_X11_image l V σ0 Qk := by
  refine kH_X11_image q.1.1 q.1.2.1 (fun r σ' p0 p1 p2 p3 p4 p5 p6 p7 p8 p9 p10 p11 p12 p13 => h9ret r σ' ?_ p1 p4 p5 p6 p7 p8 p9 p10 p11 p12 p13)
  obtain ⟨⟨q1, q2, q3, q4, q5, q6, q7, q8, q9, q10⟩, qm⟩ := q
  exact ⟨⟨p0, p2, p3, by rw [FX_i p1 (id := 1) (k := 3) (by intro h9; (try dsimp only at h9) <;> first | exact h9 | omega) (by intro h9; (try dsimp only at h9) <;> first | exact h9 | omega), FX_i p1 (id := 1) (k := 1) (by intro h9; (try dsimp only at h9) <;> first | exact h9 | omega) (by intro h9; (try dsimp only at h9) <;> first | exact h9 | omega)]; exact q4, by rw [p5, p4]; exact q4, by rw [FX_i p1 (id := 1) (k := 9) (by intro h9; (try dsimp only at h9) <;> first | exact h9 | omega) (by intro h9; (try dsimp only at h9) <;> first | exact h9 | omega)]; exact q6, by rw [p6]; exact q6, by rw [FX_i p1 (id := 9) (k := 1) (by intro h9; (try dsimp only at h9) <;> first | exact h9 | omega) (by intro h9; (try dsimp only at h9) <;> first | exact h9 | omega)]; exact q8, by rw [p7]; exact q8, FI_fx p1 (by intro h9; (try dsimp only at h9) <;> first | exact h9 | omega) (fun k => (by intro h9; (try dsimp only at h9) <;> first | exact h9 | omega)) q10⟩, IVM_ag (MA_fx p1 (by intro id h9; (try dsimp only at h9) <;> omega) (by intro id k h9; (try dsimp only at h9) <;> first | exact h9.elim | omega)) qm⟩
set_option maxHeartbeats 4000000 in
theorem L4_X11_undo {l : Launch} {V : Vx} {σ0 : Sg} {Qk : Int32 → Sg → Prop} (q : INV V σ0) (h9ret : ∀ (r : Int32) (σ' : Sg), INV V σ' → (FX (fun id => id = 10 ∨ id = 12 ∨ id = 14 ∨ id = 2 ∨ id = 3 ∨ id = 4 ∨ id = 5 ∨ id = 6 ∨ id = 7 ∨ id = 8) (fun id k => (id = 1 ∧ k = 1) ∨ (id = 1 ∧ k = 3) ∨ (id = 1 ∧ k = 9) ∨ (id = 1 ∧ k = 10) ∨ (id = 1 ∧ k = 11) ∨ (id = 11 ∧ k = 1) ∨ (id = 13 ∧ k = 1) ∨ (id = 9 ∧ k = 1)) σ0 σ') → ((gi σ' 1 9).toInt ≤ 9999) → ((gi σ' 1 3).toInt = (gi σ' 1 1).toInt) → ((gi σ' 9 1).toInt % 3 = 0) → ((gi σ0 0 3).toInt ≠ 0 → CPY σ0 σ' 1 17) → ((gi σ0 0 3).toInt = 0 → σ' = σ0) → (((gi σ0 0 3).toInt = 0 → r.toInt = -3 ∧ (gi σ' 1 1).toInt = (gi σ0 1 1).toInt ∧ (gi σ' 11 1).toInt = (gi σ0 11 1).toInt ∧ (gi σ' 13 1).toInt = (gi σ0 13 1).toInt ∧ (gi σ' 1 9).toInt = (gi σ0 1 9).toInt ∧ (gi σ' 9 1).toInt = (gi σ0 9 1).toInt) ∧ ((gi σ0 0 3).toInt ≠ 0 → r.toInt = (gi σ0 17 1).toInt ∧ (gi σ' 1 1).toInt = (gi σ0 17 1).toInt ∧ (gi σ' 11 1).toInt = (gi σ0 27 1).toInt ∧ (gi σ' 13 1).toInt = (gi σ0 29 1).toInt ∧ (gi σ' 1 9).toInt = (gi σ0 17 9).toInt ∧ (gi σ' 9 1).toInt = (gi σ0 25 1).toInt)) → (F_X11_undo σ0 = (r, σ')) → Qk r σ') : K_X11_undo l V σ0 Qk := by
  refine kH_X11_undo q.1.1 q.1.2.1 q.1.2.2.1 q.1.2.2.2.2.2.1 q.1.2.2.2.2.2.2.1 q.1.2.2.2.1 q.1.2.2.2.2.1 q.1.2.2.2.2.2.2.2.1 q.1.2.2.2.2.2.2.2.2.1 (fun r σ' p0 p1 p2 p3 p4 p5 p6 p7 p8 p9 p10 => h9ret r σ' ?_ p1 p4 p5 p6 p7 p8 p9 p10)
  obtain ⟨⟨q1, q2, q3, q4, q5, q6, q7, q8, q9, q10⟩, qm⟩ := q
  exact ⟨⟨p0, p2, p3, p5, by rw [FX_i p1 (id := 17) (k := 3) (by intro h9; (try dsimp only at h9) <;> first | exact h9 | omega) (by intro h9; (try dsimp only at h9) <;> first | exact h9 | omega), FX_i p1 (id := 17) (k := 1) (by intro h9; (try dsimp only at h9) <;> first | exact h9 | omega) (by intro h9; (try dsimp only at h9) <;> first | exact h9 | omega)]; exact q5, p4, by rw [FX_i p1 (id := 17) (k := 9) (by intro h9; (try dsimp only at h9) <;> first | exact h9 | omega) (by intro h9; (try dsimp only at h9) <;> first | exact h9 | omega)]; exact q7, p6, by rw [FX_i p1 (id := 25) (k := 1) (by intro h9; (try dsimp only at h9) <;> first | exact h9 | omega) (by intro h9; (try dsimp only at h9) <;> first | exact h9 | omega)]; exact q9, FI_fx p1 (by intro h9; (try dsimp only at h9) <;> first | exact h9 | omega) (fun k => (by intro h9; (try dsimp only at h9) <;> first | exact h9 | omega)) q10⟩, IVM_ag (MA_fx p1 (by intro id h9; (try dsimp only at h9) <;> omega) (by intro id k h9; (try dsimp only at h9) <;> first | exact h9.elim | omega)) qm⟩
set_option maxHeartbeats 4000000 in
theorem L4_X12_see {l : Launch} {V : Vx} {a1 : Int32} {a2 : Int32} {a3 : Int32} {σ0 : Sg} {Qk : Int32 → Sg → Prop} (q : INV V σ0) (h9ret : ∀ (r : Int32) (σ' : Sg), INV V σ' → (Fr [74, 142, 143, 144] [41] σ0 σ') → (SEA r a1 a2 a3 (gi σ0 74 0).toInt (gi σ0 74 41).toInt (gi σ' 74 41).toInt) → (F_X12_see a1 a2 a3 σ0 = (r, σ')) → Qk r σ') : K_X12_see l V a1 a2 a3 σ0 Qk := by
  refine kH_X12_see q.2.1 (fun r σ' p0 p1 p2 p3 => h9ret r σ' ?_ p1 p2 p3)
  refine INV_m p1 (by decide +kernel) q ?_
  obtain ⟨-, q1, q2, q3, q4, q5, q6, q7⟩ := q
  exact ⟨p0, by rw [p1.2.1 12 (by decide +kernel), p1.2.1 11 (by decide +kernel)]; exact q2, by rw [p1.2.1 50 (by decide +kernel), p1.2.1 11 (by decide +kernel)]; exact q3, PL_fr q4 p1 (by decide +kernel) (by decide +kernel), PLI_fr q5 p1 (by decide +kernel) (by decide +kernel), by rw [p1.2.1 1 (by decide +kernel)]; exact q6, by rw [p1.2.1 52 (by decide +kernel)]; exact q7⟩
set_option maxHeartbeats 4000000 in
theorem L4_X12_plan {l : Launch} {V : Vx} {a1 : Int32} {σ0 : Sg} {Qk : Int32 → Sg → Prop} (q : INV V σ0) (h9ret : ∀ (r : Int32) (σ' : Sg), INV V σ' → (Fr [74, 147] [45] σ0 σ') → (PBA r a1 (gi σ0 74 45) (gi σ' 74 45) (2) 10) → (F_X12_plan a1 σ0 = (r, σ')) → Qk r σ') : K_X12_plan l V a1 σ0 Qk := by
  refine kH_X12_plan q.2.1 (fun r σ' p0 p1 p2 p3 => h9ret r σ' ?_ p1 p2 p3)
  refine INV_m p1 (by decide +kernel) q ?_
  obtain ⟨-, q1, q2, q3, q4, q5, q6, q7⟩ := q
  exact ⟨p0, by rw [p1.2.1 12 (by decide +kernel), p1.2.1 11 (by decide +kernel)]; exact q2, by rw [p1.2.1 50 (by decide +kernel), p1.2.1 11 (by decide +kernel)]; exact q3, PL_fr q4 p1 (by decide +kernel) (by decide +kernel), PLI_fr q5 p1 (by decide +kernel) (by decide +kernel), by rw [p1.2.1 1 (by decide +kernel)]; exact q6, by rw [p1.2.1 52 (by decide +kernel)]; exact q7⟩
/-! both states alike, what is told by hand too -/
noncomputable def RELS (σ : Sg) : Prop := RELM σ ∧ SNP σ
/-! orders of a row: by number, and the next one -/
noncomputable def oFac : Nat → Nat
  | 0 => 1
  | k + 1 => (k + 1) * oFac k
noncomputable def oLay : Nat → Nat → Nat → List Nat → List Nat
  | 0, _, _, _ => []
  | j + 1, w, r, l => l.getD (r / (w / (j + 1))) 0 :: oLay j (w / (j + 1)) (r % (w / (j + 1))) (l.erase (l.getD (r / (w / (j + 1))) 0))
noncomputable def oL (n q : Nat) : List Nat := oLay n (oFac n) q (List.range n)
noncomputable def oF (n q : Nat) : Nat → Nat := fun k => (oL n q).getD k 0
noncomputable def oRis (f : Nat → Nat) : Nat → Nat
  | 0 => 0
  | r + 1 => if f r ≤ f (r + 1) then r + 1 else oRis f r
noncomputable def oAbv (f : Nat → Nat) (r : Nat) : Nat → Nat
  | 0 => 0
  | a + 1 => if a + 1 ≤ r then a + 1 else if f r ≤ f (a + 1) then a + 1 else oAbv f r a
noncomputable def oSwp (f : Nat → Nat) (i j : Nat) : Nat → Nat := fun k => if k = j then f i else if k = i then f j else f k
noncomputable def oRev : Nat → Nat → Nat → (Nat → Nat) → Nat → Nat
  | 0, _, _, f => f
  | e + 1, i, j, f => if j ≤ i then f else oRev e (i + 1) (j - 1) (oSwp f i j)
noncomputable def oNx (n : Nat) (f : Nat → Nat) : Nat → Nat := oRev 3 (oRis f (n - 1)) (n - 1) (oSwp f (oRis f (n - 1) - 1) (oAbv f (oRis f (n - 1) - 1) (n - 1)))
noncomputable def oChk (n q : Nat) : Bool := if oRis (oF n q) (n - 1) = 0 then decide (oFac n ≤ q + 1) else decide (q + 1 < oFac n) && (List.range n).all (fun k => oNx n (oF n q) k == oF n (q + 1) k)
theorem oAll : ∀ n, n < 6 → ∀ q, q < 120 → q < oFac n → oChk n q = true := by decide +kernel
theorem oVal : ∀ n, n < 6 → ∀ q, q < 120 → q < oFac n → ∀ k, k < n → oF n q k < n := by decide +kernel
theorem oFst : ∀ n, n < 6 → ∀ k, k < n → oF n 0 k = k := by decide +kernel
theorem oFac_b : ∀ n, n < 6 → 1 ≤ oFac n ∧ oFac n ≤ 120 := by decide +kernel
theorem oN0 {n q : Nat} (hn : n < 6) (hq : q < oFac n) (h : oRis (oF n q) (n - 1) = 0) : q + 1 = oFac n := by
  have c := oAll n hn q (by have := oFac_b n hn; omega) hq
  unfold oChk at c
  rw [if_pos h] at c
  have := of_decide_eq_true c; omega
theorem oN1 {n q : Nat} (hn : n < 6) (hq : q < oFac n) (h : ¬ oRis (oF n q) (n - 1) = 0) : q + 1 < oFac n ∧ ∀ k, k < n → oNx n (oF n q) k = oF n (q + 1) k := by
  have c := oAll n hn q (by have := oFac_b n hn; omega) hq
  unfold oChk at c
  rw [if_neg h, Bool.and_eq_true] at c
  refine ⟨of_decide_eq_true c.1, fun k hk => ?_⟩
  have d := List.all_eq_true.mp c.2 k (List.mem_range.mpr hk)
  exact eq_of_beq d
noncomputable def T66 (n : Nat) (f : Nat → Nat) (σ : Sg) : Prop := ∀ k, k < n → (gi σ 66 k).toInt = (f k : Int)
theorem T66_e {n : Nat} {f : Nat → Nat} {σ σ' : Sg} (e : ∀ k, gi σ' 66 k = gi σ 66 k) (h : T66 n f σ) : T66 n f σ' := fun k hk => by rw [e]; exact h k hk
theorem swpC {n i j : Nat} {f : Nat → Nat} {a1 a2 : Int32} {σ : Sg} (h1 : a1.toInt = (i : Int)) (h2 : a2.toInt = (j : Int)) (hi : i < n) (hj : j < n) (t : T66 n f σ) : Ru (F_X11_swapsTried a1 a2 σ) (fun σ' => T66 n (oSwp f i j) σ' ∧ FXv σ σ' ∧ ∀ k, gi σ' 67 k = gi σ 67 k) := by
  have e1 := cl_eq (x := a1) (by omega)
  have e2 := cl_eq (x := a2) (by omega)
  unfold F_X11_swapsTried
  rw [show a1.toNatClampNeg = i from by omega, show a2.toNatClampNeg = j from by omega]
  refine Ru_fl (fun v2 q2 => Ru_fl (fun σ5 q5 => Ru_fl (fun σ7 q7 => Ru_p ⟨fun k hk => ?_, ?_, fun k => ?_⟩)))
  · unfold oSwp
    rw [q7, gi_si]
    by_cases c : k = j
    · rw [if_pos ⟨rfl, c⟩, if_pos c, q2]; exact t i hi
    · rw [if_neg (fun z => c z.2), if_neg c, q5, gi_si]
      by_cases d : k = i
      · rw [if_pos ⟨rfl, d⟩, if_pos d]; exact t j hj
      · rw [if_neg (fun z => d z.2), if_neg d]; exact t k hk
  · rw [q7, q5]; exact FX_si (FX_si FX_rf (Or.inl (Or.inr (by decide +kernel)))) (Or.inl (Or.inr (by decide +kernel)))
  · rw [q7, gi_si_ne (Or.inl (by decide +kernel)), q5, gi_si_ne (Or.inl (by decide +kernel))]
theorem i_dec {x : Int32} (h : -2147483647 ≤ x.toInt) : (x - (1 : Int32)).toInt = x.toInt - 1 := by
  have := Int32.toInt_lt x
  exact i_sb (rfl : (1 : Int32).toInt = 1) (by omega) (by omega)
theorem tn3 {n : Nat} : ∀ (e i j N : Nat) (f : Nat → Nat) (x4 x5 : Int32) (σ : Sg), j ≤ i + 2 * e → e < N → x4.toInt = (i : Int) → x5.toInt = (j : Int) → j < n → n ≤ 5 → T66 n f σ →
    Rt (LF_X11_triesNextOrder N 3 0 0 0 x4 x5 σ) (fun r σ' => r = 1 ∧ T66 n (oRev e i j f) σ' ∧ FXv σ σ' ∧ ∀ k, gi σ' 67 k = gi σ 67 k) := by
  intro e
  induction e with
  | zero =>
    intro i j N f x4 x5 σ hij hN h4 h5 hj n5 t
    obtain ⟨N, rfl⟩ : ∃ i, N = i + 1 := ⟨N - 1, by omega⟩
    show Rt (LB_X11_triesNextOrder_83 (LF_X11_triesNextOrder N) x4 x5 σ) _
    unfold LB_X11_triesNextOrder_83
    exact Rt_t (i_le (by omega)) (Rt_p ⟨rfl, t, FXv_rf, fun _ => rfl⟩)
  | succ e ih =>
    intro i j N f x4 x5 σ hij hN h4 h5 hj n5 t
    obtain ⟨N, rfl⟩ : ∃ i, N = i + 1 := ⟨N - 1, by omega⟩
    show Rt (LB_X11_triesNextOrder_83 (LF_X11_triesNextOrder N) x4 x5 σ) (fun r σ' => r = 1 ∧ T66 n (if j ≤ i then f else oRev e (i + 1) (j - 1) (oSwp f i j)) σ' ∧ FXv σ σ' ∧ ∀ k, gi σ' 67 k = gi σ 67 k)
    unfold LB_X11_triesNextOrder_83
    by_cases c : j ≤ i
    · rw [if_pos c]
      exact Rt_t (i_le (by omega)) (Rt_p ⟨rfl, t, FXv_rf, fun _ => rfl⟩)
    · rw [if_neg c]
      refine Rt_f (i_nle (by omega)) ?_
      refine Rt_fs (swpC h4 h5 (by omega) hj t) (fun σ2 ⟨t2, f2, k2⟩ => ?_)
      refine Rt_fl (fun v3 e3 => Rt_fl (fun v4 e4 => ?_))
      exact Rt_w (ih (i + 1) (j - 1) N _ v3 v4 σ2 (by omega) (by omega) (by rw [e3, i_inc (by omega)]; omega) (by rw [e4, i_dec (by omega)]; omega) (by omega) n5 t2) (fun r σ' q => ⟨q.1, q.2.1, FXv_tr f2 q.2.2.1, fun k => (q.2.2.2 k).trans (k2 k)⟩)
theorem tn1 {n r M0 : Nat} {f : Nat → Nat} {x1 x2 : Int32} {σ : Sg} {Q : Int32 → Sg → Prop} (h2 : x2.toInt = (r : Int)) (hr : r < n) (n5 : n ≤ 5) (t : T66 n f σ)
    (ct : ∀ (N : Nat) (x3 : Int32), M0 ≤ N → x3.toInt = (oAbv f r (n - 1) : Int) → Rt (LF_X11_triesNextOrder N 2 x1 x2 x3 0 0 σ) Q) : ∀ (a N : Nat) (x3 : Int32), oAbv f r (n - 1) = oAbv f r a → a + 1 + M0 ≤ N → x3.toInt = (a : Int) → a < n → Rt (LF_X11_triesNextOrder N 1 x1 x2 x3 0 0 σ) Q := by
  have ex2 := cl_eq (x := x2) (by omega)
  intro a
  induction a with
  | zero =>
    intro N x3 h hN h3 ha
    obtain ⟨N, rfl⟩ : ∃ i, N = i + 1 := ⟨N - 1, by omega⟩
    show Rt (LB_X11_triesNextOrder_41 (LF_X11_triesNextOrder N) x1 x2 x3 σ) _
    unfold LB_X11_triesNextOrder_41
    refine Rt_t (i_le (by omega)) ?_
    exact ct N x3 (by omega) (by rw [h]; exact h3)
  | succ a ih =>
    intro N x3 h hN h3 ha
    obtain ⟨N, rfl⟩ : ∃ i, N = i + 1 := ⟨N - 1, by omega⟩
    have ex3 := cl_eq (x := x3) (by omega)
    have g2 := t r hr
    have g3 := t (a + 1) ha
    have h' : oAbv f r (n - 1) = if a + 1 ≤ r then a + 1 else if f r ≤ f (a + 1) then a + 1 else oAbv f r a := h
    show Rt (LB_X11_triesNextOrder_41 (LF_X11_triesNextOrder N) x1 x2 x3 σ) _
    unfold LB_X11_triesNextOrder_41
    rw [show x2.toNatClampNeg = r from by omega, show x3.toNatClampNeg = a + 1 from by omega]
    by_cases c : a + 1 ≤ r
    · rw [if_pos c] at h'
      refine Rt_t (i_le (by omega)) ?_
      exact ct N x3 (by omega) (by rw [h']; exact h3)
    · rw [if_neg c] at h'
      refine Rt_f (i_nle (by omega)) ?_
      by_cases d : f r ≤ f (a + 1)
      · rw [if_pos d] at h'
        refine Rt_t (i_le (by omega)) ?_
        exact ct N x3 (by omega) (by rw [h']; exact h3)
      · rw [if_neg d] at h'
        refine Rt_f (i_nle (by omega)) ?_
        refine Rt_fl (fun v5 e5 => ?_)
        exact ih N v5 h' (by omega) (by rw [e5, i_dec (by omega)]; omega) (by omega)
theorem tn0 {n : Nat} {f : Nat → Nat} {x1 : Int32} {σ : Sg} (h1 : x1.toInt = (n : Int)) (n5 : n ≤ 5) (t : T66 n f σ) : ∀ (r N : Nat) (x2 : Int32), oRis f (n - 1) = oRis f r → r + 60 ≤ N → x2.toInt = (r : Int) - 1 → r ≤ n - 1 →
    Rt (LF_X11_triesNextOrder N 0 x1 x2 0 0 0 σ) (fun q σ' => FXv σ σ' ∧ (∀ k, gi σ' 67 k = gi σ 67 k) ∧ ((q = 0 ∧ oRis f (n - 1) = 0) ∨ (q = 1 ∧ ¬ oRis f (n - 1) = 0 ∧ T66 n (oNx n f) σ'))) := by
  intro r
  induction r with
  | zero =>
    intro N x2 h hN h2 hr
    obtain ⟨N, rfl⟩ : ∃ i, N = i + 1 := ⟨N - 1, by omega⟩
    show Rt (LB_X11_triesNextOrder_4 (LF_X11_triesNextOrder N) x1 x2 σ) _
    unfold LB_X11_triesNextOrder_4
    refine Rt_t (i_lt0 (by omega)) ?_
    refine Rt_f (i_nle (show _ < (0 : Int) by omega)) ?_
    exact Rt_p ⟨FXv_rf, fun _ => rfl, Or.inl ⟨rfl, h⟩⟩
  | succ r ih =>
    intro N x2 h hN h2 hr
    obtain ⟨N, rfl⟩ : ∃ i, N = i + 1 := ⟨N - 1, by omega⟩
    have ex2 := cl_eq (x := x2) (by omega)
    have v1 : (x2 + (1 : Int32)).toInt = x2.toInt + 1 := i_inc (by omega)
    have ex3 := cl_eq (x := x2 + (1 : Int32)) (by omega)
    have g2 := t r (by omega)
    have g3 := t (r + 1) (by omega)
    have h' : oRis f (n - 1) = if f r ≤ f (r + 1) then r + 1 else oRis f r := h
    show Rt (LB_X11_triesNextOrder_4 (LF_X11_triesNextOrder N) x1 x2 σ) _
    unfold LB_X11_triesNextOrder_4
    refine Rt_f (i_nlt0 (by omega)) ?_
    rw [show x2.toNatClampNeg = r from by omega, show (x2 + (1 : Int32)).toNatClampNeg = r + 1 from by omega]
    by_cases c : f r ≤ f (r + 1)
    · rw [if_pos c] at h'
      refine Rt_t (i_le (by omega)) ?_
      refine Rt_t (i_le (show (0 : Int) ≤ _ by omega)) ?_
      refine Rt_fl (fun v3 e3 => ?_)
      refine tn1 (r := r) (M0 := 10) (by omega) (by omega) n5 t (fun N' x3 hN' h3 => ?_) (n - 1) N v3 rfl (by omega) (by rw [e3, i_dec (by omega)]; omega) (by omega)
      obtain ⟨N', rfl⟩ : ∃ i, N' = i + 1 := ⟨N' - 1, by omega⟩
      have ab : ∀ a, oAbv f r a ≤ a := by
        intro a
        induction a with
        | zero => exact Nat.le_refl _
        | succ a ih =>
          show (if a + 1 ≤ r then a + 1 else if f r ≤ f (a + 1) then a + 1 else oAbv f r a) ≤ a + 1
          split
          · exact Nat.le_refl _
          split
          · exact Nat.le_refl _
          · omega
      have ab1 := ab (n - 1)
      show Rt (LB_X11_triesNextOrder_67 (LF_X11_triesNextOrder N') x1 x2 x3 σ) _
      unfold LB_X11_triesNextOrder_67
      refine Rt_fs (swpC (i := r) (by omega) h3 (by omega) (by omega) t) (fun σ2 ⟨t2, f2, k2⟩ => ?_)
      refine Rt_fl (fun v4 e4 => Rt_fl (fun v5 e5 => ?_))
      refine Rt_w (tn3 3 (r + 1) (n - 1) N' _ v4 v5 σ2 (by omega) (by omega) (by rw [e4]; omega) (by rw [e5, i_dec (by omega)]; omega) (by omega) n5 t2) (fun q σ' z => ⟨FXv_tr f2 z.2.2.1, fun k => (z.2.2.2 k).trans (k2 k), Or.inr ⟨z.1, by omega, ?_⟩⟩)
      have z2 := z.2.1
      unfold oNx
      rw [h']; exact z2
    · rw [if_neg c] at h'
      refine Rt_f (i_nle (by omega)) ?_
      refine Rt_fl (fun v9 e9 => ?_)
      exact ih N v9 h' (by omega) (by rw [e9, i_dec (by omega)]; omega) (by omega)
theorem tnoC {n : Nat} {f : Nat → Nat} {x1 : Int32} {σ : Sg} (h1 : x1.toInt = (n : Int)) (n5 : n ≤ 5) (t : T66 n f σ) :
    Rt (F_X11_triesNextOrder x1 σ) (fun q σ' => FXv σ σ' ∧ (∀ k, gi σ' 67 k = gi σ 67 k) ∧ ((q = 0 ∧ oRis f (n - 1) = 0) ∨ (q = 1 ∧ ¬ oRis f (n - 1) = 0 ∧ T66 n (oNx n f) σ'))) := by
  unfold F_X11_triesNextOrder
  refine Rt_fl (fun v1 e1 => ?_)
  have v : v1.toInt = (n : Int) - 2 := by rw [e1, i_sb (k := 2) rfl (by omega) (by omega), h1]
  by_cases c : n = 0
  · show Rt (LB_X11_triesNextOrder_4 (LF_X11_triesNextOrder 899) x1 v1 σ) _
    unfold LB_X11_triesNextOrder_4
    refine Rt_t (i_lt0 (by omega)) ?_
    refine Rt_f (i_nle (show _ < (0 : Int) by omega)) ?_
    exact Rt_p ⟨FXv_rf, fun _ => rfl, Or.inl ⟨rfl, by rw [c]; rfl⟩⟩
  · exact tn0 h1 n5 t (n - 1) 900 v1 rfl (by omega) (by omega) (Nat.le_refl _)
/-! order: what the class answers -/
noncomputable def sOr (f : Nat → Nat) (S : Stc) : Stc := (S.1, f, S.2.2)
noncomputable def dAt (z : Nat → Int) (D : Dyn) : Dyn := (D_m D, z, D_ed D, D_ti D, D_st D)
theorem SBd_or {n : Nat} {S : Stc} {f : Nat → Nat} (h : SBd n S) (hf : ∀ p, p < n → f p < n) : SBd n (sOr f S) := ⟨h.1, h.2.1, fun p hp => hf p (by have hp : p < S_r S := hp; have := h.2.1; omega), h.2.2.2⟩
theorem DBd_at {n : Nat} {K : Int} {D : Dyn} {z : Nat → Int} (d : DBd n K D) (hz : ∀ m, m < n → 0 ≤ z m ∧ z m ≤ 9999) : DBd n K (dAt z D) := ⟨d.1, fun m hm => ⟨hz m hm, (d.2 m hm).2⟩⟩
theorem CS_or {n k x : Nat} {S : Stc} {g : Nat → Nat} {σ : Sg} {v : Int32} (hv : v.toInt = (x : Int)) (h : CS 33 n (sOr g S) σ) : CS 33 n (sOr (fun p => if p = k then x else g p) S) (si σ 35 k v) := by
  obtain ⟨h1, h2, h3, h4, h5, ⟨f, h6, h7, h8⟩, h9, h10⟩ := h
  have e : ∀ id j, ¬ id = 35 → gi (si σ 35 k v) id j = gi σ id j := fun id j a => gi_si_ne (Or.inl a)
  refine ⟨by rw [e 33 1 (by decide +kernel)]; exact h1, by rw [e 33 3 (by decide +kernel)]; exact h2, fun p hp => ?_, fun m hm => ?_, fun j hj => by rw [e (33 + 7) j (by decide +kernel)]; exact h5 j hj, ⟨f, h6, h7, FdA_eq (fun id j a b => e id j (by omega)) h8⟩, h9, by rw [e 33 11 (by decide +kernel)]; exact h10⟩
  · show (gi (si σ 35 k v) 35 p).toInt = ((if p = k then x else g p : Nat) : Int)
    rw [gi_si]
    by_cases q : p = k
    · rw [if_pos ⟨rfl, q⟩, if_pos q]; exact hv
    · rw [if_neg (fun z => q z.2), if_neg q]; exact h3 p hp
  · obtain ⟨μ, κ, a1, a2, a3, a4, a5, a6, a7, a8⟩ := h4 m hm
    exact ⟨μ, κ, a1, a2, a3, a4, a5, by rw [e μ 0 (by omega)]; exact a6, by rw [e μ 1 (by omega)]; exact a7, by rw [e μ 2 (by omega)]; exact a8⟩
theorem CS_ln {c n : Nat} {S : Stc} {f g : Nat → Nat} {σ : Sg} (hr : S_r S = n) (e : ∀ p, p < n → g p = f p) (h : CS c n (sOr g S) σ) : CS c n (sOr f S) σ := by
  refine ⟨h.1, h.2.1, fun p hp => ?_, h.2.2.2⟩
  have hp : p < S_r S := hp
  have z := h.2.2.1 p hp
  rw [z]
  show ((g p : Nat) : Int) = (f p : Int)
  rw [e p (by omega)]
theorem CDy_at {n k : Nat} {D : Dyn} {z : Nat → Int} {σ : Sg} {v : Int32} {x : Int} (hv : v.toInt = x) (h : CDy 33 n (dAt z D) σ) : CDy 33 n (dAt (fun m => if m = k then x else z m) D) (si σ 36 k v) := by
  have e : ∀ id j, ¬ id = 36 → gi (si σ 36 k v) id j = gi σ id j := fun id j a => gi_si_ne (Or.inl a)
  refine ⟨by rw [e 33 9 (by decide +kernel)]; exact h.1, fun m hm => ?_, fun m hm => by rw [e (33 + 4) m (by decide +kernel)]; exact h.2.2.1 m hm, fun m hm => by rw [e (33 + 5) m (by decide +kernel)]; exact h.2.2.2.1 m hm, fun m hm => by rw [e (33 + 6) m (by decide +kernel)]; exact h.2.2.2.2 m hm⟩
  show (gi (si σ 36 k v) 36 m).toInt = if m = k then x else z m
  rw [gi_si]
  by_cases q : m = k
  · rw [if_pos ⟨rfl, q⟩, if_pos q]; exact hv
  · rw [if_neg (fun z => q z.2), if_neg q]; exact h.2.1 m hm
theorem CDy_ln {c n : Nat} {D : Dyn} {z z' : Nat → Int} {σ : Sg} (e : ∀ m, m < n → z m = z' m) (h : CDy c n (dAt z D) σ) : CDy c n (dAt z' D) σ :=
  ⟨h.1, fun m hm => (h.2.1 m hm).trans (e m hm), h.2.2⟩
noncomputable def FXo (σ σ' : Sg) : Prop := FXv σ σ' ∧ (∀ k, gi σ' 66 k = gi σ 66 k) ∧ ∀ k, gi σ' 67 k = gi σ 67 k
theorem FXo_rf {σ : Sg} : FXo σ σ := ⟨FXv_rf, fun _ => rfl, fun _ => rfl⟩
theorem FXo_tr {σ σ1 σ2 : Sg} (f : FXo σ σ1) (g : FXo σ1 σ2) : FXo σ σ2 := ⟨FXv_tr f.1 g.1, fun k => (g.2.1 k).trans (f.2.1 k), fun k => (g.2.2 k).trans (f.2.2 k)⟩
theorem FXn_o {n : Nat} {σ σ1 : Sg} (f : FXn 33 n σ σ1) : FXo σ σ1 := ⟨FXn_v f, fun k => FXn_i f (by omega), fun k => FXn_i f (by omega)⟩
theorem ti1 {n j : Nat} {S : Stc} {x1 : Int32} (sb : SBd n S) (h1 : x1.toInt = (j : Int)) (hj : j ≤ 60) : ∀ (i k N : Nat) (x2 : Int32) (D : Dyn) (K : Int) (σ : Sg), i + k = j → i < N → x2.toInt = (k : Int) → K + (i : Int) ≤ 100000 → DBd n K D → CS 33 n S σ → CDy 33 n D σ →
    Rt (LF_X11_totalInOrder N 1 x1 x2 σ) (fun r σ' => r.toInt = tot n (aMins S i D) ∧ FXo σ σ') := by
  have n6 := sb.1
  intro i
  induction i with
  | zero =>
    intro k N x2 D K σ hi hN h2 hK db cs cd
    obtain ⟨N, rfl⟩ : ∃ i, N = i + 1 := ⟨N - 1, by omega⟩
    show Rt (LB_X11_totalInOrder_62 (LF_X11_totalInOrder N) x1 x2 σ) _
    unfold LB_X11_totalInOrder_62
    refine Rt_t (i_le (by omega)) ?_
    obtain ⟨r, e, v⟩ := allC (c0 := 33) n6 cs.1 db cd
    refine Rt_fe e ?_
    exact Rt_p ⟨v, FXo_rf⟩
  | succ i ih =>
    intro k N x2 D K σ hi hN h2 hK db cs cd
    obtain ⟨N, rfl⟩ : ∃ i, N = i + 1 := ⟨N - 1, by omega⟩
    show Rt (LB_X11_totalInOrder_62 (LF_X11_totalInOrder N) x1 x2 σ) _
    unfold LB_X11_totalInOrder_62
    refine Rt_f (i_nle (by omega)) ?_
    refine Rt_fb (minC (c0 := 33) (by decide +kernel) sb db (by omega) cs cd) (fun r5 σ4 ⟨_, d4, f4⟩ => ?_)
    refine Rt_fl (fun v6 e6 => ?_)
    exact Rt_w (ih (k + 1) N v6 (aMin S D).2 (K + 1) σ4 (by omega) (by omega) (by rw [e6, i_inc (by omega)]; omega) (by omega) (aMin_b sb db) (CS_m (by decide +kernel) f4 cs) d4) (fun r σ' q => ⟨q.1, FXo_tr (FXn_o f4) q.2⟩)
theorem ti0 {n M0 : Nat} {S : Stc} {D : Dyn} {f : Nat → Nat} {x1 : Int32} {σ0 : Sg} {Q : Int32 → Sg → Prop} (n5 : n ≤ 5) (t : T66 n f σ0)
    (ct : ∀ (N : Nat) (σ : Sg) (g : Nat → Nat) (z : Nat → Int), M0 ≤ N → (∀ p, p < n → g p = f p) → (∀ m, m < n → z m = 0) → CS 33 n (sOr g S) σ → CDy 33 n (dAt z D) σ → FXo σ0 σ → Rt (LF_X11_totalInOrder N 1 x1 (0 : Int32) σ) Q) : ∀ (i k N : Nat) (x2 : Int32) (g : Nat → Nat) (z : Nat → Int) (σ : Sg), i + k = n → i + 1 + M0 ≤ N → x2.toInt = (k : Int) → (∀ p, p < k → g p = f p) → (∀ m, m < k → z m = 0) → CS 33 n (sOr g S) σ → CDy 33 n (dAt z D) σ → FXo σ0 σ →
    Rt (LF_X11_totalInOrder N 0 x1 x2 σ) Q := by
  intro i
  induction i with
  | zero =>
    intro k N x2 g z σ hi hN h2 hg hz cs cd fo
    obtain ⟨N, rfl⟩ : ∃ i, N = i + 1 := ⟨N - 1, by omega⟩
    have hn := cs.1
    show Rt (LB_X11_totalInOrder_13 (LF_X11_totalInOrder N) x1 x2 σ) _
    unfold LB_X11_totalInOrder_13
    refine Rt_t (i_le (by omega)) ?_
    exact ct N σ g z (by omega) (fun p hp => hg p (by omega)) (fun m hm => hz m (by omega)) cs cd fo
  | succ i ih =>
    intro k N x2 g z σ hi hN h2 hg hz cs cd fo
    obtain ⟨N, rfl⟩ : ∃ i, N = i + 1 := ⟨N - 1, by omega⟩
    have hn := cs.1
    have ex := cl_eq (x := x2) (by omega)
    have tk : (gi σ 66 k).toInt = (f k : Int) := by rw [fo.2.1]; exact t k (by omega)
    show Rt (LB_X11_totalInOrder_13 (LF_X11_totalInOrder N) x1 x2 σ) _
    unfold LB_X11_totalInOrder_13
    refine Rt_f (i_nle (by omega)) ?_
    refine Rt_f (i_nle (show _ < (5 : Int) by omega)) ?_
    rw [show x2.toNatClampNeg = k from by omega]
    refine Rt_fl (fun σ5 e5 => Rt_fl (fun σ7 e7 => Rt_fl (fun v8 e8 => ?_)))
    have cs5 := CS_or (k := k) tk cs
    have cd5 : CDy 33 n (dAt z D) (si σ 35 k (gi σ 66 k)) := CDy_eq (fun id j a => gi_si_ne (Or.inl (by omega))) cd
    rw [← e5] at cs5 cd5
    have cs7 : CS 33 n (sOr (fun p => if p = k then f k else g p) S) σ7 := by rw [e7]; exact CS_eq (fun id j a => gi_si_ne (Or.inl (by unfold RcC at a; omega))) (fun k => rfl) rfl cs5
    have cd7 : CDy 33 n (dAt (fun m => if m = k then 0 else z m) D) σ7 := by rw [e7]; exact CDy_at (rfl : (0 : Int32).toInt = 0) cd5
    have fo7 : FXo σ σ7 := ⟨by rw [e7, e5]; exact FX_si (FX_si FX_rf (Or.inl (Or.inl (by decide +kernel)))) (Or.inl (Or.inl (by decide +kernel))), fun q => by rw [e7, gi_si_ne (Or.inl (by decide +kernel)), e5, gi_si_ne (Or.inl (by decide +kernel))], fun q => by rw [e7, gi_si_ne (Or.inl (by decide +kernel)), e5, gi_si_ne (Or.inl (by decide +kernel))]⟩
    refine ih (k + 1) N v8 _ _ σ7 (by omega) (by omega) (by rw [e8, i_inc (by omega)]; omega) (fun p hp => ?_) (fun m hm => ?_) cs7 cd7 (FXo_tr fo fo7)
    · show (if p = k then f k else g p) = f p
      by_cases q : p = k
      · rw [if_pos q, q]
      · rw [if_neg q]; exact hg p (by omega)
    · show (if m = k then 0 else z m) = 0
      by_cases q : m = k
      · rw [if_pos q]
      · rw [if_neg q]; exact hz m (by omega)
noncomputable def oTt (n : Nat) (S : Stc) (D : Dyn) (j q : Nat) : Int := tot n (aMins (sOr (oF n q) S) j (dAt (fun _ => 0) D))
theorem tioC {n j : Nat} {K : Int} {S : Stc} {D : Dyn} {f : Nat → Nat} {σ : Sg} {x1 : Int32} (h : HCl n K S D σ) (n5 : n ≤ 5) (h1 : x1.toInt = (j : Int)) (hj : j ≤ 60) (t : T66 n f σ) (hf : ∀ p, p < n → f p < n) :
    Rt (F_X11_totalInOrder x1 σ) (fun r σ' => r.toInt = tot n (aMins (sOr f S) j (dAt (fun _ => 0) D)) ∧ FXo σ σ') := by
  have hK := h.2.2.1
  have hr := h.2.2.2.1
  unfold F_X11_totalInOrder
  refine Rt_fs (Ru_and (HCl_bec h) becF) (fun σ1 ⟨⟨s1, d1, f1⟩, b1⟩ => ?_)
  have fo : FXo σ σ1 := ⟨f1, fun k => b1 66 k (by omega), fun k => b1 67 k (by omega)⟩
  refine ti0 (M0 := 100) n5 t (fun N σ' g z hN hg hz cs cd fo' => ?_) n 0 300 (0 : Int32) (S_ln S) (D_at D) σ1 rfl (by omega) rfl (fun p hp => absurd hp (Nat.not_lt_zero p)) (fun p hp => absurd hp (Nat.not_lt_zero p)) s1 d1 fo
  exact Rt_w (ti1 (SBd_or h.1 hf) h1 hj j 0 N (0 : Int32) (dAt (fun _ => 0) D) K σ' rfl (by omega) rfl (by omega) (DBd_at h.2.1 (fun m _ => ⟨Int.le_refl _, by decide +kernel⟩)) (CS_ln hr hg cs) (CDy_ln hz cd)) (fun r σ'' q => ⟨q.1, FXo_tr fo' q.2⟩)
/-! order: the best one, the class's answer -/
theorem aBst_s' {f : Nat → Int} {j k : Nat} {b m : Int} : aBst f (j + 1) k b m = if m < f k then aBst f j (k + 1) (k : Int) (f k) else aBst f j (k + 1) b m := Eq.trans rfl rfl
noncomputable def O67 (n : Nat) (b m : Int) (σ : Sg) : Prop := m = -1 ∨ ∃ q : Nat, b = (q : Int) ∧ ∀ k, k < n → (gi σ 67 k).toInt = (oF n q k : Int)
theorem O67_e {n : Nat} {b m : Int} {σ σ' : Sg} (e : ∀ k, gi σ' 67 k = gi σ 67 k) (h : O67 n b m σ) : O67 n b m σ' := by
  rcases h with h | ⟨q, h1, h2⟩
  · exact Or.inl h
  · exact Or.inr ⟨q, h1, fun k hk => by rw [e]; exact h2 k hk⟩
theorem fb1 {n j : Nat} {K : Int} {S : Stc} {D : Dyn} {x1 x2 : Int32} (n5 : n ≤ 5) (h1 : x1.toInt = (j : Int)) (hj : j ≤ 60) (h2 : x2.toInt = (n : Int)) : ∀ (i q N : Nat) (x3 x4 x5 : Int32) (b m : Int) (σ : Sg), i + q = oFac n → (i = 0 → x4 = 0) → (1 ≤ i → x4 = 1 ∧ T66 n (oF n q) σ) → i < N → x5.toInt = (q : Int) → x3.toInt = m → -1 ≤ m → HCl n K S D σ → O67 n b m σ →
    Rt (LF_X11_findsBestOrder N 1 x1 x2 x3 x4 x5 σ) (fun r σ' => r.toInt = (aBst (oTt n S D j) i q b m).2 ∧ O67 n (aBst (oTt n S D j) i q b m).1 (aBst (oTt n S D j) i q b m).2 σ') := by
  have hfac := oFac_b n (by omega)
  intro i
  induction i with
  | zero =>
    intro q N x3 x4 x5 b m σ hi hx4 _ hN h5 h3 hm h o
    obtain ⟨N, rfl⟩ : ∃ i, N = i + 1 := ⟨N - 1, by omega⟩
    show Rt (LB_X11_findsBestOrder_40 (LF_X11_findsBestOrder N) x1 x2 x3 x4 x5 σ) _
    unfold LB_X11_findsBestOrder_40
    by_cases c : (120 : Int32) ≤ x5
    · exact Rt_t c (Rt_p ⟨h3, o⟩)
    · exact Rt_f c (Rt_t (hx4 rfl) (Rt_p ⟨h3, o⟩))
  | succ i ih =>
    intro q N x3 x4 x5 b m σ hi _ hx4 hN h5 h3 hm h o
    obtain ⟨N, rfl⟩ : ∃ i, N = i + 1 := ⟨N - 1, by omega⟩
    obtain ⟨x41, t⟩ := hx4 (by omega)
    have hq : q < oFac n := by omega
    have ex := cl_eq (x := x2) (by omega)
    have vf := oVal n (by omega) q (by omega) hq
    have tb : 0 ≤ oTt n S D j q ∧ oTt n S D j q ≤ 60000 := tot_b h.1.1 (aMins_b (SBd_or h.1 vf) j (dAt (fun _ => 0) D) K (DBd_at h.2.1 (fun m _ => ⟨Int.le_refl _, by decide +kernel⟩)))
    show Rt (LB_X11_findsBestOrder_40 (LF_X11_findsBestOrder N) x1 x2 x3 x4 x5 σ) _
    unfold LB_X11_findsBestOrder_40
    refine Rt_f (i_nle (show _ < (120 : Int) by omega)) ?_
    refine Rt_f (by rw [x41]; decide) ?_
    refine Rt_fb (tioC h n5 h1 hj t vf) (fun r4 σ3 ⟨v, fo⟩ => ?_)
    have v : r4.toInt = oTt n S D j q := v
    have t3 : T66 n (oF n q) σ3 := T66_e fo.2.1 t
    have o3 : O67 n b m σ3 := O67_e fo.2.2 o
    have h3' := HCl_v fo.1 h
    -- behind the next order
    have go : ∀ (r7 v8 y3 : Int32) (b' m' : Int) (σ4 σ6 : Sg), HCl n K S D σ4 → O67 n b' m' σ4 → y3.toInt = m' → -1 ≤ m' → v8.toInt = ((q + 1 : Nat) : Int) → FXv σ4 σ6 → (∀ k, gi σ6 67 k = gi σ4 67 k) → ((r7 = 0 ∧ oRis (oF n q) (n - 1) = 0) ∨ (r7 = 1 ∧ ¬ oRis (oF n q) (n - 1) = 0 ∧ T66 n (oNx n (oF n q)) σ6)) →
        Rt (LF_X11_findsBestOrder N 1 x1 x2 y3 r7 v8 σ6) (fun r σ' => r.toInt = (aBst (oTt n S D j) i (q + 1) b' m').2 ∧ O67 n (aBst (oTt n S D j) i (q + 1) b' m').1 (aBst (oTt n S D j) i (q + 1) b' m').2 σ') := by
      intro r7 v8 y3 b' m' σ4 σ6 h4 o4 hy hm' hv f6 k6 c
      refine ih (q + 1) N y3 r7 v8 b' m' σ6 (by omega) (fun hi0 => ?_) (fun hi1 => ?_) (by omega) hv hy hm' (HCl_v f6 h4) (O67_e k6 o4)
      · rcases c with ⟨c, -⟩ | ⟨-, c, -⟩
        · exact c
        · have := (oN1 (by omega) hq c).1; omega
      · rcases c with ⟨-, c⟩ | ⟨c1, c, c2⟩
        · have := oN0 (by omega) hq c; omega
        · exact ⟨c1, fun k hk => by rw [c2 k hk, (oN1 (by omega) hq c).2 k hk]⟩
    rw [aBst_s']
    by_cases c : m < oTt n S D j q
    · rw [if_pos c]
      refine Rt_f (i_nle (by omega)) ?_
      refine Rt_fl (fun σ9 e9 => ?_)
      have f9 : FXv σ3 σ9 := by rw [e9]; exact FX_sia FX_rf (Or.inr (by decide +kernel))
      have t9 : T66 n (oF n q) σ9 := T66_e (fun k => by rw [e9, gi_sia, if_neg (by decide +kernel)]) t3
      have o9 : O67 n (q : Int) (oTt n S D j q) σ9 := Or.inr ⟨q, rfl, fun k hk => by
        rw [e9, gi_sia, if_pos rfl, show (0 : Int32).toNatClampNeg = 0 from rfl, show x2.toNatClampNeg = n from by omega, cpy_in _ _ hk]
        exact t3 k hk⟩
      refine Rt_fb (tnoC h2 n5 t9) (fun r11 σ10 ⟨f10, k10, c10⟩ => ?_)
      refine Rt_fl (fun v12 e12 => ?_)
      exact go r11 v12 r4 _ _ σ9 σ10 (HCl_v f9 h3') o9 v (by omega) (by rw [e12, i_inc (by omega)]; omega) f10 k10 c10
    · rw [if_neg c]
      refine Rt_t (i_le (by omega)) ?_
      refine Rt_fb (tnoC h2 n5 t3) (fun r7 σ6 ⟨f6, k6, c6⟩ => ?_)
      refine Rt_fl (fun v8 e8 => ?_)
      exact go r7 v8 x3 b m σ3 σ6 h3' o3 h3 hm (by rw [e8, i_inc (by omega)]; omega) f6 k6 c6
theorem fb0 {n M0 : Nat} {x1 x2 : Int32} {σ0 : Sg} {Q : Int32 → Sg → Prop} (n5 : n ≤ 5) (h2 : x2.toInt = (n : Int))
    (ct : ∀ (N : Nat) (σ : Sg), M0 ≤ N → FXv σ0 σ → T66 n (oF n 0) σ → Rt (LF_X11_findsBestOrder N 1 x1 x2 (-1 : Int32) (1 : Int32) (0 : Int32) σ) Q) : ∀ (i k N : Nat) (x3 : Int32) (σ : Sg), i + k = n → i + 1 + M0 ≤ N → x3.toInt = (k : Int) → FXv σ0 σ → (∀ p, p < k → (gi σ 66 p).toInt = (p : Int)) →
    Rt (LF_X11_findsBestOrder N 0 x1 x2 x3 0 0 σ) Q := by
  intro i
  induction i with
  | zero =>
    intro k N x3 σ hi hN h3 fv hp
    obtain ⟨N, rfl⟩ : ∃ i, N = i + 1 := ⟨N - 1, by omega⟩
    show Rt (LB_X11_findsBestOrder_14 (LF_X11_findsBestOrder N) x1 x2 x3 σ) _
    unfold LB_X11_findsBestOrder_14
    refine Rt_t (i_le (by omega)) ?_
    exact ct N σ (by omega) fv (fun p hp' => by rw [hp p (by omega), oFst n (by omega) p hp'])
  | succ i ih =>
    intro k N x3 σ hi hN h3 fv hp
    obtain ⟨N, rfl⟩ : ∃ i, N = i + 1 := ⟨N - 1, by omega⟩
    have ex := cl_eq (x := x3) (by omega)
    show Rt (LB_X11_findsBestOrder_14 (LF_X11_findsBestOrder N) x1 x2 x3 σ) _
    unfold LB_X11_findsBestOrder_14
    refine Rt_f (i_nle (by omega)) ?_
    rw [show x3.toNatClampNeg = k from by omega]
    refine Rt_fl (fun σ3 e3 => Rt_fl (fun v4 e4 => ?_))
    refine ih (k + 1) N v4 σ3 (by omega) (by omega) (by rw [e4, i_inc (by omega)]; omega) (FXv_tr fv (by rw [e3]; exact FX_si FX_rf (Or.inl (Or.inr (by decide +kernel))))) (fun p hp' => ?_)
    rw [e3, gi_si]
    by_cases q : p = k
    · rw [if_pos ⟨rfl, q⟩, q]; exact h3
    · rw [if_neg (fun z => q z.2)]; exact hp p (by omega)
noncomputable def oBest (n : Nat) (S : Stc) (D : Dyn) (j : Nat) : Int × Int := aBst (oTt n S D j) (oFac n) 0 0 (-1)
theorem oBest_p {n j : Nat} {K : Int} {S : Stc} {D : Dyn} {b m : Int} (n5 : n ≤ 5) (sb : SBd n S) (db : DBd n K D) : -1 < (oBest n S D j).2 := by
  have hfac := oFac_b n (by omega)
  obtain ⟨i, hi⟩ : ∃ i, oFac n = i + 1 := ⟨oFac n - 1, by omega⟩
  have mono : ∀ (i k : Nat) (b m : Int), m ≤ (aBst (oTt n S D j) i k b m).2 := by
    intro i
    induction i with
    | zero => intro k b m; exact Int.le_refl _
    | succ i ih =>
      intro k b m
      rw [aBst_s']
      by_cases c : m < oTt n S D j k
      · rw [if_pos c]; have := ih (k + 1) (k : Int) (oTt n S D j k); omega
      · rw [if_neg c]; exact ih (k + 1) b m
  have tb : 0 ≤ oTt n S D j 0 ∧ oTt n S D j 0 ≤ 60000 := tot_b sb.1 (aMins_b (SBd_or sb (oVal n (by omega) 0 (by decide +kernel) (by omega))) j (dAt (fun _ => 0) D) K (DBd_at db (fun m _ => ⟨Int.le_refl _, by decide +kernel⟩)))
  unfold oBest
  rw [hi, aBst_s', if_pos (by omega)]
  have := mono i (0 + 1) ((0 : Nat) : Int) (oTt n S D j 0); omega
theorem fboC {n j : Nat} {K : Int} {S : Stc} {D : Dyn} {x1 : Int32} {σ : Sg} (h : HCl n K S D σ) (n5 : n ≤ 5) (h1 : x1.toInt = (j : Int)) (hj : j ≤ 60) :
    Rt (F_X11_findsBestOrder x1 σ) (fun r σ' => r.toInt = (oBest n S D j).2 ∧ ∃ q : Nat, (oBest n S D j).1 = (q : Int) ∧ ∀ k, k < n → (gi σ' 67 k).toInt = (oF n q k : Int)) := by
  have hn := h.2.2.2.2.2.1.1
  have hfac := oFac_b n (by omega)
  unfold F_X11_findsBestOrder
  refine Rt_fl (fun v1 e1 => ?_)
  have v : v1.toInt = (n : Int) := by
    have z : (5 : Int32).toInt = 5 := rfl
    rw [e1, jmin_f]; split <;> omega
  refine fb0 (M0 := 300) n5 v (fun N σ' hN fv t => ?_) n 0 900 (0 : Int32) σ rfl (by omega) rfl FXv_rf (fun p hp => absurd hp (Nat.not_lt_zero p))
  refine Rt_w (fb1 n5 h1 hj v (oFac n) 0 N (-1 : Int32) (1 : Int32) (0 : Int32) 0 (-1) σ' rfl (fun z => by omega) (fun _ => ⟨rfl, t⟩) (by omega) rfl rfl (Int.le_refl _) (HCl_v fv h) (Or.inl rfl)) (fun r σ'' q => ⟨q.1, ?_⟩)
  have p := oBest_p (j := j) (b := 0) (m := 0) n5 h.1 h.2.1
  rcases q.2 with z | z
  · have z : (oBest n S D j).2 = -1 := z
    omega
  · exact z
noncomputable def r_order (n : Nat) (S : Stc) (D : Dyn) (a1 a2 : Int) : Int :=
  if ¬ (-1 ≤ a2 ∧ a2 ≤ 4) then -1 else if ¬ (1 ≤ a1 ∧ a1 ≤ 12) then -2 else if 5 < n then -9 else if (n : Int) ≤ a2 then -5 else
    if a2 < 0 then (oBest n S D a1.toNat).2 else (oF n (oBest n S D a1.toNat).1.toNat a2.toNat : Int)
theorem r_or1 {n : Nat} {S : Stc} {D : Dyn} {a1 a2 : Int} (c : ¬ (-1 ≤ a2 ∧ a2 ≤ 4)) : r_order n S D a1 a2 = -1 := by unfold r_order; rw [if_pos c]
theorem r_or2 {n : Nat} {S : Stc} {D : Dyn} {a1 a2 : Int} (c : -1 ≤ a2 ∧ a2 ≤ 4) (d : ¬ (1 ≤ a1 ∧ a1 ≤ 12)) : r_order n S D a1 a2 = -2 := by unfold r_order; rw [if_neg (fun z => z c), if_pos d]
theorem r_or3 {n : Nat} {S : Stc} {D : Dyn} {a1 a2 : Int} (c : -1 ≤ a2 ∧ a2 ≤ 4) (d : 1 ≤ a1 ∧ a1 ≤ 12) (e : 5 < n) : r_order n S D a1 a2 = -9 := by unfold r_order; rw [if_neg (fun z => z c), if_neg (fun z => z d), if_pos e]
theorem r_or4 {n : Nat} {S : Stc} {D : Dyn} {a1 a2 : Int} (c : -1 ≤ a2 ∧ a2 ≤ 4) (d : 1 ≤ a1 ∧ a1 ≤ 12) (e : ¬ 5 < n) (g : (n : Int) ≤ a2) : r_order n S D a1 a2 = -5 := by unfold r_order; rw [if_neg (fun z => z c), if_neg (fun z => z d), if_neg e, if_pos g]
theorem r_or5 {n : Nat} {S : Stc} {D : Dyn} {a1 a2 : Int} (c : -1 ≤ a2 ∧ a2 ≤ 4) (d : 1 ≤ a1 ∧ a1 ≤ 12) (e : ¬ 5 < n) (g : ¬ (n : Int) ≤ a2) (w : a2 < 0) : r_order n S D a1 a2 = (oBest n S D a1.toNat).2 := by unfold r_order; rw [if_neg (fun z => z c), if_neg (fun z => z d), if_neg e, if_neg g, if_pos w]
theorem r_or6 {n : Nat} {S : Stc} {D : Dyn} {a1 a2 : Int} (c : -1 ≤ a2 ∧ a2 ≤ 4) (d : 1 ≤ a1 ∧ a1 ≤ 12) (e : ¬ 5 < n) (g : ¬ (n : Int) ≤ a2) (w : ¬ a2 < 0) : r_order n S D a1 a2 = (oF n (oBest n S D a1.toNat).1.toNat a2.toNat : Int) := by unfold r_order; rw [if_neg (fun z => z c), if_neg (fun z => z d), if_neg e, if_neg g, if_neg w]
theorem orderC {n : Nat} {K : Int} {S : Stc} {D : Dyn} {a1 a2 : Int32} {σ : Sg} (h : HCl n K S D σ) : Rt (F_X11_order a1 a2 σ) (fun r _ => r.toInt = r_order n S D a1.toInt a2.toInt) := by
  have hn := h.2.2.2.2.2.1.1
  have m1 : (-1 : Int32).toInt = -1 := rfl
  have m2 : (-2 : Int32).toInt = -2 := rfl
  have m5 : (-5 : Int32).toInt = -5 := rfl
  have m9 : (-9 : Int32).toInt = -9 := rfl
  have p1 : (1 : Int32).toInt = 1 := rfl
  have p4 : (4 : Int32).toInt = 4 := rfl
  have p5 : (5 : Int32).toInt = 5 := rfl
  have p12 : (12 : Int32).toInt = 12 := rfl
  have p0 : (0 : Int32).toInt = 0 := rfl
  unfold F_X11_order
  by_cases c : -1 ≤ a2.toInt ∧ a2.toInt ≤ 4
  · refine Rt_f (i_nlt (by omega)) ?_
    refine Rt_t (i_le (by omega)) ?_
    by_cases d : 1 ≤ a1.toInt ∧ a1.toInt ≤ 12
    · refine Rt_f (i_nlt (by omega)) ?_
      refine Rt_t (i_le (by omega)) ?_
      by_cases e : 5 < n
      · rw [r_or3 c d e]
        exact Rt_f (i_nle (by omega)) (Rt_p m9)
      · refine Rt_t (i_le (by omega)) ?_
        by_cases g : (n : Int) ≤ a2.toInt
        · rw [r_or4 c d e g]
          exact Rt_f (i_nlt (by omega)) (Rt_p m5)
        · refine Rt_t (i_lt (by omega)) ?_
          refine Rt_fb (fboC (j := a1.toInt.toNat) h (by omega) (by omega) (by omega)) (fun r8 σ7 ⟨v, q, hq, ho⟩ => ?_)
          by_cases w : a2.toInt < 0
          · rw [r_or5 c d e g w]
            exact Rt_f (i_nle (by omega)) (Rt_p v)
          · rw [r_or6 c d e g w]
            have ex := cl_eq (x := a2) (by omega)
            refine Rt_t (i_le (by omega)) (Rt_p ?_)
            rw [ho _ (by omega), hq, show ((q : Int)).toNat = q from by omega, show a2.toNatClampNeg = a2.toInt.toNat from by omega]
    · rw [r_or2 c d]
      by_cases e : a1.toInt < 1
      · exact Rt_t (i_lt (by omega)) (Rt_p m2)
      · exact Rt_f (i_nlt (by omega)) (Rt_f (i_nle (by omega)) (Rt_p m2))
  · rw [r_or1 c]
    by_cases e : a2.toInt < -1
    · exact Rt_t (i_lt (by omega)) (Rt_p m1)
    · exact Rt_f (i_nlt (by omega)) (Rt_f (i_nle (by omega)) (Rt_p m1))
/-! the model's order as a function, its contract with it -/
noncomputable def LB_X12_layOrder_4 (rec : Nat → Int32 → Int32 → Int32 → Int32 → Int32 → Int32 → Int32 → Sg → Int32 × Sg) (x1 : Int32) (x2 : Int32) (x3 : Int32) (σ : Sg) : Int32 × Sg := (if (gi σ 74 0) < x3 then (if x1 < x2 then fl (((1 : Int32) <<< ((gi σ 74 0) &&& 31)) - (1 : Int32)) (fun v3 => rec 1 0 x2 v3 x1 (0 : Int32) 0 0 σ) else ((0 : Int32), σ)) else fl (x2 * x3) (fun v4 => fl (x3 + 1) (fun v5 => rec 0 x1 v4 v5 0 0 0 0 σ)))
noncomputable def LB_X12_layOrder_44 (rec : Nat → Int32 → Int32 → Int32 → Int32 → Int32 → Int32 → Int32 → Sg → Int32 × Sg) (x2 : Int32) (x3 : Int32) (x4 : Int32) (x5 : Int32) (σ : Sg) : Int32 × Sg := (if (gi σ 74 0) ≤ x5 then ((1 : Int32), σ) else fl (x2 / ((gi σ 74 0) - x5)) (fun v3 => fl (x4 / v3) (fun v5 => fl (x4 - x4 / v3 * v3) (fun v7 => rec 2 0 v3 x3 v7 x5 v5 (0 : Int32) σ))))
noncomputable def LB_X12_layOrder_78 (rec : Nat → Int32 → Int32 → Int32 → Int32 → Int32 → Int32 → Int32 → Sg → Int32 × Sg) (x2 : Int32) (x3 : Int32) (x4 : Int32) (x5 : Int32) (x6 : Int32) (x7 : Int32) (σ : Sg) : Int32 × Sg := fb (F_X12_has x3 x7 σ) (fun r2 σ1 => (if r2 = 0 then rec 3 0 x2 x3 x4 x5 x6 x7 σ1 else (if x6 ≤ 0 then fl (si σ1 110 x5.toNatClampNeg x7) (fun σ6 => fl (x3 &&& (((1 : Int32) <<< (x7 &&& 31)) ^^^ (-1 : Int32))) (fun v7 => fl (x5 + 1) (fun v8 => rec 1 0 x2 v7 x4 v8 0 0 σ6))) else rec 3 0 x2 x3 x4 x5 x6 x7 σ1)))
noncomputable def LB_X12_layOrder_93 (rec : Nat → Int32 → Int32 → Int32 → Int32 → Int32 → Int32 → Int32 → Sg → Int32 × Sg) (x2 : Int32) (x3 : Int32) (x4 : Int32) (x5 : Int32) (x6 : Int32) (x7 : Int32) (σ : Sg) : Int32 × Sg := fb (F_X12_has x3 x7 σ) (fun r2 σ1 => (if r2 = 0 then fl (x6 - (0 : Int32)) (fun v4 => fl (x7 + 1) (fun v5 => rec 2 0 x2 x3 x4 x5 v4 v5 σ1)) else fl (x6 - (1 : Int32)) (fun v6 => fl (x7 + 1) (fun v7 => rec 2 0 x2 x3 x4 x5 v6 v7 σ1))))
noncomputable def LF_X12_layOrder : Nat → Nat → Int32 → Int32 → Int32 → Int32 → Int32 → Int32 → Int32 → Sg → Int32 × Sg
  | 0, _, _, _, _, _, _, _, _, σ => (0, σ)
  | n + 1, 0, x1, x2, x3, _, _, _, _, σ => LB_X12_layOrder_4 (LF_X12_layOrder n) x1 x2 x3 σ
  | n + 1, 1, _, x2, x3, x4, x5, _, _, σ => LB_X12_layOrder_44 (LF_X12_layOrder n) x2 x3 x4 x5 σ
  | n + 1, 2, _, x2, x3, x4, x5, x6, x7, σ => LB_X12_layOrder_78 (LF_X12_layOrder n) x2 x3 x4 x5 x6 x7 σ
  | n + 1, 3, _, x2, x3, x4, x5, x6, x7, σ => LB_X12_layOrder_93 (LF_X12_layOrder n) x2 x3 x4 x5 x6 x7 σ
  | _ + 1, _ + 4, _, _, _, _, _, _, _, σ => (0, σ)
noncomputable def F_X12_layOrder (a1 : Int32) (σ : Sg) : Int32 × Sg := LF_X12_layOrder 3000 0 a1 (1 : Int32) (2 : Int32) 0 0 0 0 σ
set_option maxRecDepth 100000 in
set_option maxHeartbeats 4000000 in
theorem kF_X12_layOrder {l : Launch} {V : Vx} {a1 : Int32} {σ0 : Sg} {Qk : Int32 → Sg → Prop} (m0 : MI σ0) (l_a1 : 0 ≤ a1.toInt) (u_a1 : a1.toInt ≤ 200) (pre0 : (gi σ0 74 0).toInt ≤ 5) (h9ret : ∀ (r : Int32) (σ' : Sg), MI σ' → Fr [110] [] σ0 σ' → (0 ≤ r.toInt) → (r.toInt ≤ 1) → ((r.toInt = 1 ∧ a1.toInt ≤ 119) ∨ r.toInt = 0) → (F_X12_layOrder a1 σ0 = (r, σ')) → Qk r σ') : K_X12_layOrder l V a1 σ0 Qk := by
  refine e_X12_layOrder (fun M hl hV hN C => ?_)
  subst hl
  subst hV
  obtain ⟨R9, H0⟩ : ∃ R9, F_X12_layOrder a1 σ0 = R9 := ⟨_, rfl⟩
  have T : ∀ n : Nat, (∀ (x1 : Int32) (x2 : Int32) (x3 : Int32) (σ : Sg), MI σ → Fr [110] [] σ0 σ → (0 ≤ x1.toInt) → (x1.toInt ≤ 200) → (1 ≤ x2.toInt) → (x2.toInt ≤ 120) → (2 ≤ x3.toInt) → (x3.toInt ≤ 6) → (x1.toInt = a1.toInt) → (hid (FK x3.toInt x2.toInt)) → (x3.toInt = 2 ∨ x3.toInt ≤ (gi σ 74 0).toInt + 1) → ((gi σ 74 0).toInt ≤ 5) → (LF_X12_layOrder n 0 x1 x2 x3 0 0 0 0 σ = R9) → (8 - x3.toInt).toNat + 2000 < n → PS M 4 [(0, .ref 74), (1, .int x1), (2, .int x2), (3, .int x3)] [] σ (0, 0)) ∧ (∀ (x2 : Int32) (x3 : Int32) (x4 : Int32) (x5 : Int32) (σ : Sg), MI σ → Fr [110] [] σ0 σ → (1 ≤ x2.toInt) → (x2.toInt ≤ 120) → (0 ≤ x4.toInt) → (x4.toInt ≤ 119) → (0 ≤ x5.toInt) → (x5.toInt ≤ 5) → (hid (FCT ((gi σ 74 0).toInt - x5.toInt) x2.toInt)) → (x4.toInt < x2.toInt) → (LB x3 ((gi σ 74 0).toInt - x5.toInt)) → (x5.toInt ≤ (gi σ 74 0).toInt) → ((gi σ 74 0).toInt ≤ 5) → (a1.toInt ≤ 119) → (LF_X12_layOrder n 1 0 x2 x3 x4 x5 0 0 σ = R9) → (7 - x5.toInt).toNat * 100 + 50 < n → PS M 44 [(0, .ref 74), (2, .int x2), (3, .int x3), (4, .int x4), (5, .int x5)] [] σ (0, 0)) ∧ (∀ (x2 : Int32) (x3 : Int32) (x4 : Int32) (x5 : Int32) (x6 : Int32) (x7 : Int32) (σ : Sg), MI σ → Fr [110] [] σ0 σ → (1 ≤ x2.toInt) → (x2.toInt ≤ 24) → (0 ≤ x4.toInt) → (x4.toInt ≤ 119) → (0 ≤ x5.toInt) → (x5.toInt ≤ 4) → (0 ≤ x6.toInt) → (x6.toInt ≤ 5) → (0 ≤ x7.toInt) → (x7.toInt ≤ 5) → (hid (FCT ((gi σ 74 0).toInt - x5.toInt - 1) x2.toInt)) → (x4.toInt < x2.toInt) → (LQ x3 x7 x6 ((gi σ 74 0).toInt - x5.toInt)) → (x5.toInt < (gi σ 74 0).toInt) → ((gi σ 74 0).toInt ≤ 5) → (a1.toInt ≤ 119) → (LF_X12_layOrder n 2 0 x2 x3 x4 x5 x6 x7 σ = R9) → (7 - x5.toInt).toNat * 100 + (6 - x7.toInt).toNat * 3 + 1 < n → PS M 78 [(0, .ref 74), (2, .int x2), (3, .int x3), (4, .int x4), (5, .int x5), (6, .int x6), (7, .int x7)] [] σ (0, 0)) ∧ (∀ (x2 : Int32) (x3 : Int32) (x4 : Int32) (x5 : Int32) (x6 : Int32) (x7 : Int32) (σ : Sg), MI σ → Fr [110] [] σ0 σ → (1 ≤ x2.toInt) → (x2.toInt ≤ 24) → (0 ≤ x4.toInt) → (x4.toInt ≤ 119) → (0 ≤ x5.toInt) → (x5.toInt ≤ 4) → (0 ≤ x6.toInt) → (x6.toInt ≤ 5) → (0 ≤ x7.toInt) → (x7.toInt ≤ 5) → (hid (FCT ((gi σ 74 0).toInt - x5.toInt - 1) x2.toInt)) → (x4.toInt < x2.toInt) → (L9 x3 x7 x6 ((gi σ 74 0).toInt - x5.toInt)) → (x5.toInt < (gi σ 74 0).toInt) → ((gi σ 74 0).toInt ≤ 5) → (a1.toInt ≤ 119) → (LF_X12_layOrder n 3 0 x2 x3 x4 x5 x6 x7 σ = R9) → (7 - x5.toInt).toNat * 100 + (6 - x7.toInt).toNat * 3 < n → PS M 93 [(0, .ref 74), (2, .int x2), (3, .int x3), (4, .int x4), (5, .int x5), (6, .int x6), (7, .int x7)] [] σ (0, 0)) := by
    intro n
    induction n with
    | zero => exact ⟨fun _ _ _ _ _ _ _ _ _ _ _ _ _ _ _ _ _ h8 => absurd h8 (Nat.not_lt_zero _), fun _ _ _ _ _ _ _ _ _ _ _ _ _ _ _ _ _ _ _ _ h8 => absurd h8 (Nat.not_lt_zero _), fun _ _ _ _ _ _ _ _ _ _ _ _ _ _ _ _ _ _ _ _ _ _ _ _ _ _ h8 => absurd h8 (Nat.not_lt_zero _), fun _ _ _ _ _ _ _ _ _ _ _ _ _ _ _ _ _ _ _ _ _ _ _ _ _ _ h8 => absurd h8 (Nat.not_lt_zero _)⟩
    | succ n ih =>
      obtain ⟨ih4, ih44, ih78, ih93⟩ := ih
      refine ⟨?_, ?_, ?_, ?_⟩
      · intro x1 x2 x3 σ mσ fσ lx1 ux1 lx2 ux2 lx3 ux3 i0 i1 i2 i3 H hmu
        replace H : LB_X12_layOrder_4 (LF_X12_layOrder n) x1 x2 x3 σ = R9 := H
        unfold LB_X12_layOrder_4 at H
        have mw := MI_f0 mσ
        refine s_X12_layOrder_4 C hN ?_
        refine ⟨?_, ?_⟩
        · intro q_1
          replace H := f_t q_1 H
          have t_2 := MI_f0 mσ
          have b_3 : (gi σ 74 0).toInt < x3.toInt := Int32.lt_iff_toInt_lt.mp q_1
          refine ⟨?_, ?_⟩
          · intro q_4
            replace H := f_t q_4 H
            have b_5 : x1.toInt < x2.toInt := Int32.lt_iff_toInt_lt.mp q_4
            intro v3 ev3
            replace H := f_l ev3 H
            have z_6 : (0 : Int32).toInt = 0 := rfl
            exact ih44 x2 v3 x1 (0 : Int32) σ mσ fσ (by omega) (by omega) (by omega) (by omega) (by omega) (by omega) (by first | (rw [show ((0 : Int32).toInt : Int) = 0 from rfl, Int.sub_zero]; exact FK_F (un i1) (by omega) (by omega) (by omega)) | (rw [show (gi σ6 74 0).toInt - v8.toInt = (gi σ 74 0).toInt - x5.toInt - 1 from by omega]; exact i0)) (by first | with_reducible assumption | with_reducible rfl | omega | assumption | rfl) (by first | (rw [show ((0 : Int32).toInt : Int) = 0 from rfl, Int.sub_zero]; exact LB_0 (by omega) (by omega) ev3) | exact LB_clr i2 pσ1_0 (by omega) (by omega) (by omega) ev7 (by omega)) (by first | with_reducible assumption | with_reducible rfl | omega | assumption | rfl) (by first | with_reducible assumption | with_reducible rfl | omega | assumption | rfl) (by first | with_reducible assumption | with_reducible rfl | omega | assumption | rfl) H (by omega)
          · intro q_4
            replace H := f_f q_4 H
            have b_7 : ¬ x1.toInt < x2.toInt := fun h9 => q_4 (Int32.lt_iff_toInt_lt.mpr h9)
            have z_8 : (0 : Int32).toInt = 0 := rfl
            exact h9ret (0 : Int32) σ mσ fσ (by omega) (by omega) (by first | with_reducible assumption | with_reducible rfl | omega | assumption | rfl) (H0.trans H.symm)
        · intro q_1
          replace H := f_f q_1 H
          have t_9 := MI_f0 mσ
          have b_10 : ¬ (gi σ 74 0).toInt < x3.toInt := fun h9 => q_1 (Int32.lt_iff_toInt_lt.mpr h9)
          intro v4 ev4
          replace H := f_l ev4 H
          obtain ⟨fk1, fk2, fk3⟩ := FK_step (un i1) (by omega)
          have uv4 : v4.toInt = x2.toInt * x3.toInt := by rw [ev4]; exact i_mul0 rfl (by omega) (by omega)
          intro v5 ev5
          replace H := f_l ev5 H
          have t_11 : (x3 + (1 : Int32)).toInt = x3.toInt + 1 := i_add (x := x3) (y := (1 : Int32)) (by show (_ : Int) ≤ x3.toInt + 1; omega) (by show x3.toInt + 1 ≤ (_ : Int); omega)
          have t_12 : v5.toInt = (x3 + (1 : Int32)).toInt := congrArg Int32.toInt ev5
          exact ih4 x1 v4 v5 σ mσ fσ (by omega) (by omega) (by omega) (by omega) (by omega) (by omega) (by first | with_reducible assumption | with_reducible rfl | omega | assumption | rfl) (by first | exact Or.inl ⟨rfl, rfl⟩ | (rw [show v5.toInt = x3.toInt + 1 from by omega, uv4]; exact fk1)) (by first | with_reducible assumption | with_reducible rfl | omega | assumption | rfl) (by first | with_reducible assumption | with_reducible rfl | omega | assumption | rfl) H (by omega)
      · intro x2 x3 x4 x5 σ mσ fσ lx2 ux2 lx4 ux4 lx5 ux5 i0 i1 i2 i3 i4 i5 H hmu
        replace H : LB_X12_layOrder_44 (LF_X12_layOrder n) x2 x3 x4 x5 σ = R9 := H
        unfold LB_X12_layOrder_44 at H
        have mw := MI_f0 mσ
        refine s_X12_layOrder_44 C hN ?_
        refine ⟨?_, ?_⟩
        · intro q_13
          replace H := f_t q_13 H
          have t_14 := MI_f0 mσ
          have b_15 : (gi σ 74 0).toInt ≤ x5.toInt := Int32.le_iff_toInt_le.mp q_13
          have z_16 : (1 : Int32).toInt = 1 := rfl
          exact h9ret (1 : Int32) σ mσ fσ (by omega) (by omega) (by first | with_reducible assumption | with_reducible rfl | omega | assumption | rfl) (H0.trans H.symm)
        · intro q_13
          replace H := f_f q_13 H
          have t_17 := MI_f0 mσ
          have b_18 : ¬ (gi σ 74 0).toInt ≤ x5.toInt := fun h9 => q_13 (Int32.le_iff_toInt_le.mpr h9)
          have t_19 : ((gi σ 74 0) - x5).toInt = (gi σ 74 0).toInt - x5.toInt := i_sub (x := (gi σ 74 0)) (y := x5) (by show (_ : Int) ≤ (gi σ 74 0).toInt - x5.toInt; omega) (by show (gi σ 74 0).toInt - x5.toInt ≤ (_ : Int); omega)
          refine ⟨fun h9 => ?_, ?_⟩
          · have h9 : ((gi σ 74 0) - x5).toInt = 0 := congrArg Int32.toInt h9
            omega
          intro v3 ev3
          replace H := f_l ev3 H
          have u3 : v3.toInt = x2.toInt / ((gi σ 74 0).toInt - x5.toInt) := by rw [ev3]; exact i_div (by omega) (by omega) (by omega)
          obtain ⟨f1, f2, f3, f4⟩ := FCT_step (un i0) (by omega)
          rw [← u3] at f1 f2 f3 f4
          have f1 : hid _ := f1
          have f4 : hid _ := f4
          clear u3
          refine ⟨fun h9 => ?_, ?_⟩
          · have h9 : v3.toInt = 0 := congrArg Int32.toInt h9
            omega
          intro v5 ev5
          replace H := f_l ev5 H
          have u5 : v5.toInt = x4.toInt / v3.toInt := by rw [ev5]; exact i_div (by omega) (by omega) rfl
          have n5 : v5.toInt < ((gi σ 74 0).toInt - x5.toInt) := by rw [u5]; exact nth_lt i1 (un f4) (by omega)
          have p5 : 0 ≤ v5.toInt := by rw [u5]; exact Int.ediv_nonneg (by omega) (by omega)
          clear u5
          refine ⟨fun h9 => ?_, ?_⟩
          · have h9 : v3.toInt = 0 := congrArg Int32.toInt h9
            omega
          intro v7 ev7
          replace H := f_l ev7 H
          have u7 : v7.toInt = x4.toInt % v3.toInt := by rw [ev7]; exact i_rem (by omega) (by omega) rfl
          have p7 := Int.emod_nonneg x4.toInt (show v3.toInt ≠ 0 by omega)
          have n7 := Int.emod_lt_of_pos x4.toInt (show 0 < v3.toInt by omega)
          rw [← u7] at p7 n7
          clear u7
          have z_20 : (0 : Int32).toInt = 0 := rfl
          exact ih78 v3 x3 v7 x5 v5 (0 : Int32) σ mσ fσ (by omega) (by omega) (by omega) (by omega) (by omega) (by omega) (by omega) (by omega) (by omega) (by omega) (by first | with_reducible assumption | with_reducible rfl | omega | assumption | rfl) (by first | with_reducible assumption | with_reducible rfl | omega | assumption | rfl) (by first | exact LQ_0 i2 rfl (by omega) (by omega) | exact LQ_sf i2 pσ1_0 (by omega) (by omega) (by omega) (by omega) (by omega) | exact LQ_st i2 pσ1_0 (by omega) (by omega) (by omega) (by omega) (by omega)) (by first | with_reducible assumption | with_reducible rfl | omega | assumption | rfl) (by first | with_reducible assumption | with_reducible rfl | omega | assumption | rfl) (by first | with_reducible assumption | with_reducible rfl | omega | assumption | rfl) H (by omega)
      · intro x2 x3 x4 x5 x6 x7 σ mσ fσ lx2 ux2 lx4 ux4 lx5 ux5 lx6 ux6 lx7 ux7 i0 i1 i2 i3 i4 i5 H hmu
        replace H : LB_X12_layOrder_78 (LF_X12_layOrder n) x2 x3 x4 x5 x6 x7 σ = R9 := H
        unfold LB_X12_layOrder_78 at H
        have mw := MI_f0 mσ
        have le7 := LQ_le i2 (by omega) (by omega)
        refine s_X12_layOrder_78 C hN ?_
        refine kF_X12_has mσ  (fun r2 σ1 mσ1 cσ1 plσ1 phσ1 (pσ1_0 : BQ r2 x3 x7) hσ1 => ?_)
        obtain rfl := Fr_nil cσ1
        replace H := f_b hσ1 H
        refine ⟨?_, ?_⟩
        · intro q_21
          replace H := f_t q_21 H
          have b_22 : r2.toInt = 0 := congrArg Int32.toInt q_21
          exact ih93 x2 x3 x4 x5 x6 x7 σ mσ fσ (by omega) (by omega) (by omega) (by omega) (by omega) (by omega) (by omega) (by omega) (by omega) (by omega) (by first | with_reducible assumption | with_reducible rfl | omega | assumption | rfl) (by first | with_reducible assumption | with_reducible rfl | omega | assumption | rfl) (by first | exact L9_f i2 pσ1_0 (by omega) (by omega) (by omega) | exact L9_t i2 (by omega)) (by first | with_reducible assumption | with_reducible rfl | omega | assumption | rfl) (by first | with_reducible assumption | with_reducible rfl | omega | assumption | rfl) (by first | with_reducible assumption | with_reducible rfl | omega | assumption | rfl) H (by omega)
        · intro q_21
          replace H := f_f q_21 H
          have b_23 : ¬ r2.toInt = 0 := fun h9 => q_21 (Int32.toInt_inj.mp h9)
          refine ⟨?_, ?_⟩
          · intro q_24
            replace H := f_t q_24 H
            have b_25 : x6.toInt ≤ 0 := Int32.le_iff_toInt_le.mp q_24
            have hv_26 : vp_in x5 6 := vp_in_iff.mpr ⟨by omega, by omega⟩
            refine ⟨hv_26, ?_⟩
            intro σ6 eσ6
            replace H := f_l eσ6 H
            have mσ6 : MI σ6 := by rw [eσ6]; exact MIs_a110 mσ (by omega) (by omega)
            have fσ6 : Fr [110] [] σ0 σ6 := by rw [eσ6]; exact Fr_si fσ (by decide +kernel) (fun h9 => absurd h9 (by decide +kernel))
            have k_27 : (gi σ6 74 0).toInt = (gi σ 74 0).toInt := gk_l eσ6 rfl
            intro v7 ev7
            replace H := f_l ev7 H
            intro v8 ev8
            replace H := f_l ev8 H
            have t_28 : (x5 + (1 : Int32)).toInt = x5.toInt + 1 := i_add (x := x5) (y := (1 : Int32)) (by show (_ : Int) ≤ x5.toInt + 1; omega) (by show x5.toInt + 1 ≤ (_ : Int); omega)
            have t_29 : v8.toInt = (x5 + (1 : Int32)).toInt := congrArg Int32.toInt ev8
            exact ih44 x2 v7 x4 v8 σ6 mσ6 fσ6 (by omega) (by omega) (by omega) (by omega) (by omega) (by omega) (by first | (rw [show ((0 : Int32).toInt : Int) = 0 from rfl, Int.sub_zero]; exact FK_F (un i1) (by omega) (by omega) (by omega)) | (rw [show (gi σ6 74 0).toInt - v8.toInt = (gi σ 74 0).toInt - x5.toInt - 1 from by omega]; exact i0)) (by first | with_reducible assumption | with_reducible rfl | omega | assumption | rfl) (by first | (rw [show ((0 : Int32).toInt : Int) = 0 from rfl, Int.sub_zero]; exact LB_0 (by omega) (by omega) ev3) | exact LB_clr i2 pσ1_0 (by omega) (by omega) (by omega) ev7 (by omega)) (by first | with_reducible assumption | with_reducible rfl | omega | assumption | rfl) (by first | with_reducible assumption | with_reducible rfl | omega | assumption | rfl) (by first | with_reducible assumption | with_reducible rfl | omega | assumption | rfl) H (by omega)
          · intro q_24
            replace H := f_f q_24 H
            have b_30 : ¬ x6.toInt ≤ 0 := fun h9 => q_24 (Int32.le_iff_toInt_le.mpr h9)
            exact ih93 x2 x3 x4 x5 x6 x7 σ mσ fσ (by omega) (by omega) (by omega) (by omega) (by omega) (by omega) (by omega) (by omega) (by omega) (by omega) (by first | with_reducible assumption | with_reducible rfl | omega | assumption | rfl) (by first | with_reducible assumption | with_reducible rfl | omega | assumption | rfl) (by first | exact L9_f i2 pσ1_0 (by omega) (by omega) (by omega) | exact L9_t i2 (by omega)) (by first | with_reducible assumption | with_reducible rfl | omega | assumption | rfl) (by first | with_reducible assumption | with_reducible rfl | omega | assumption | rfl) (by first | with_reducible assumption | with_reducible rfl | omega | assumption | rfl) H (by omega)
      · intro x2 x3 x4 x5 x6 x7 σ mσ fσ lx2 ux2 lx4 ux4 lx5 ux5 lx6 ux6 lx7 ux7 i0 i1 i2 i3 i4 i5 H hmu
        replace H : LB_X12_layOrder_93 (LF_X12_layOrder n) x2 x3 x4 x5 x6 x7 σ = R9 := H
        unfold LB_X12_layOrder_93 at H
        have mw := MI_f0 mσ
        have le7 := L9_le i2 (by omega) (by omega)
        refine s_X12_layOrder_93 C hN ?_
        refine kF_X12_has mσ  (fun r2 σ1 mσ1 cσ1 plσ1 phσ1 (pσ1_0 : BQ r2 x3 x7) hσ1 => ?_)
        obtain rfl := Fr_nil cσ1
        replace H := f_b hσ1 H
        refine ⟨?_, ?_⟩
        · intro q_31
          replace H := f_t q_31 H
          have b_32 : r2.toInt = 0 := congrArg Int32.toInt q_31
          intro v4 ev4
          replace H := f_l ev4 H
          have t_33 : (x6 - (0 : Int32)).toInt = x6.toInt - 0 := i_sub (x := x6) (y := (0 : Int32)) (by show (_ : Int) ≤ x6.toInt - 0; omega) (by show x6.toInt - 0 ≤ (_ : Int); omega)
          have t_34 : v4.toInt = (x6 - (0 : Int32)).toInt := congrArg Int32.toInt ev4
          intro v5 ev5
          replace H := f_l ev5 H
          have t_35 : (x7 + (1 : Int32)).toInt = x7.toInt + 1 := i_add (x := x7) (y := (1 : Int32)) (by show (_ : Int) ≤ x7.toInt + 1; omega) (by show x7.toInt + 1 ≤ (_ : Int); omega)
          have t_36 : v5.toInt = (x7 + (1 : Int32)).toInt := congrArg Int32.toInt ev5
          exact ih78 x2 x3 x4 x5 v4 v5 σ mσ fσ (by omega) (by omega) (by omega) (by omega) (by omega) (by omega) (by omega) (by omega) (by omega) (by omega) (by first | with_reducible assumption | with_reducible rfl | omega | assumption | rfl) (by first | with_reducible assumption | with_reducible rfl | omega | assumption | rfl) (by first | exact LQ_0 i2 rfl (by omega) (by omega) | exact LQ_sf i2 pσ1_0 (by omega) (by omega) (by omega) (by omega) (by omega) | exact LQ_st i2 pσ1_0 (by omega) (by omega) (by omega) (by omega) (by omega)) (by first | with_reducible assumption | with_reducible rfl | omega | assumption | rfl) (by first | with_reducible assumption | with_reducible rfl | omega | assumption | rfl) (by first | with_reducible assumption | with_reducible rfl | omega | assumption | rfl) H (by omega)
        · intro q_31
          replace H := f_f q_31 H
          have b_37 : ¬ r2.toInt = 0 := fun h9 => q_31 (Int32.toInt_inj.mp h9)
          have w9 := L9_pos i2 pσ1_0 (by omega) (by omega) (by omega)
          intro v6 ev6
          replace H := f_l ev6 H
          have t_38 : (x6 - (1 : Int32)).toInt = x6.toInt - 1 := i_sub (x := x6) (y := (1 : Int32)) (by show (_ : Int) ≤ x6.toInt - 1; omega) (by show x6.toInt - 1 ≤ (_ : Int); omega)
          have t_39 : v6.toInt = (x6 - (1 : Int32)).toInt := congrArg Int32.toInt ev6
          intro v7 ev7
          replace H := f_l ev7 H
          have t_40 : (x7 + (1 : Int32)).toInt = x7.toInt + 1 := i_add (x := x7) (y := (1 : Int32)) (by show (_ : Int) ≤ x7.toInt + 1; omega) (by show x7.toInt + 1 ≤ (_ : Int); omega)
          have t_41 : v7.toInt = (x7 + (1 : Int32)).toInt := congrArg Int32.toInt ev7
          exact ih78 x2 x3 x4 x5 v6 v7 σ mσ fσ (by omega) (by omega) (by omega) (by omega) (by omega) (by omega) (by omega) (by omega) (by omega) (by omega) (by first | with_reducible assumption | with_reducible rfl | omega | assumption | rfl) (by first | with_reducible assumption | with_reducible rfl | omega | assumption | rfl) (by first | exact LQ_0 i2 rfl (by omega) (by omega) | exact LQ_sf i2 pσ1_0 (by omega) (by omega) (by omega) (by omega) (by omega) | exact LQ_st i2 pσ1_0 (by omega) (by omega) (by omega) (by omega) (by omega)) (by first | with_reducible assumption | with_reducible rfl | omega | assumption | rfl) (by first | with_reducible assumption | with_reducible rfl | omega | assumption | rfl) (by first | with_reducible assumption | with_reducible rfl | omega | assumption | rfl) H (by omega)
  obtain ⟨U4, U44, U78, U93⟩ := T 3000
  have f0 : Fr [110] [] σ0 σ0 := Fr_rf
  have mw := MI_f0 m0
  have H := H0
  unfold F_X12_layOrder at H
  refine s_X12_layOrder_0 C hN ?_
  have z_42 : (1 : Int32).toInt = 1 := rfl
  have z_43 : (2 : Int32).toInt = 2 := rfl
  exact U4 a1 (1 : Int32) (2 : Int32) σ0 m0 f0 (by omega) (by omega) (by omega) (by omega) (by omega) (by omega) (by first | with_reducible assumption | with_reducible rfl | omega | assumption | rfl) (by first | exact Or.inl ⟨rfl, rfl⟩ | (rw [show v5.toInt = x3.toInt + 1 from by omega, uv4]; exact fk1)) (by first | with_reducible assumption | with_reducible rfl | omega | assumption | rfl) (by first | with_reducible assumption | with_reducible rfl | omega | assumption | rfl) H (by omega)
noncomputable def LB_X12_order_39 (rec : Nat → Int32 → Int32 → Int32 → Int32 → Int32 → Sg → Int32 × Sg) (x1 : Int32) (x2 : Int32) (x3 : Int32) (σ : Sg) : Int32 × Sg := (if (6 : Int32) ≤ x3 then rec 1 x1 x2 (-1 : Int32) (0 : Int32) 0 σ else fl (si σ 138 x3.toNatClampNeg (gi σ 110 x3.toNatClampNeg)) (fun σ4 => fl (x3 + 1) (fun v5 => rec 0 x1 x2 v5 0 0 σ4)))
noncomputable def LB_X12_order_68 (rec : Nat → Int32 → Int32 → Int32 → Int32 → Int32 → Sg → Int32 × Sg) (x1 : Int32) (x2 : Int32) (x3 : Int32) (x4 : Int32) (σ : Sg) : Int32 × Sg := fb (F_X12_layOrder x4 σ) (fun r2 σ1 => (if r2 = 0 then rec 2 0 x2 x3 (0 : Int32) 0 σ1 else fb (F_X12_fromTheStart x1 σ1) (fun r5 σ4 => (if x3 < r5 then rec 3 x1 x2 r5 x4 (0 : Int32) σ4 else fl (x4 + 1) (fun v7 => rec 1 x1 x2 x3 v7 0 σ4)))))
noncomputable def LB_X12_order_135 (rec : Nat → Int32 → Int32 → Int32 → Int32 → Int32 → Sg → Int32 × Sg) (x2 : Int32) (x3 : Int32) (x4 : Int32) (σ : Sg) : Int32 × Sg := (if (6 : Int32) ≤ x4 then (if 0 ≤ x2 then (if (gi σ 74 0) ≤ x2 then ((-5 : Int32), σ) else (gi σ 139 x2.toNatClampNeg, σ)) else (x3, σ)) else fl (si σ 110 x4.toNatClampNeg (gi σ 138 x4.toNatClampNeg)) (fun σ7 => fl (x4 + 1) (fun v8 => rec 2 0 x2 x3 v8 0 σ7)))
noncomputable def LB_X12_order_99 (rec : Nat → Int32 → Int32 → Int32 → Int32 → Int32 → Sg → Int32 × Sg) (x1 : Int32) (x2 : Int32) (x3 : Int32) (x4 : Int32) (x6 : Int32) (σ : Sg) : Int32 × Sg := (if (6 : Int32) ≤ x6 then fl (x4 + 1) (fun v2 => rec 1 x1 x2 x3 v2 0 σ) else fl (si σ 139 x6.toNatClampNeg (gi σ 110 x6.toNatClampNeg)) (fun σ5 => fl (x6 + 1) (fun v6 => rec 3 x1 x2 x3 x4 v6 σ5)))
noncomputable def LF_X12_order : Nat → Nat → Int32 → Int32 → Int32 → Int32 → Int32 → Sg → Int32 × Sg
  | 0, _, _, _, _, _, _, σ => (0, σ)
  | n + 1, 0, x1, x2, x3, _, _, σ => LB_X12_order_39 (LF_X12_order n) x1 x2 x3 σ
  | n + 1, 1, x1, x2, x3, x4, _, σ => LB_X12_order_68 (LF_X12_order n) x1 x2 x3 x4 σ
  | n + 1, 2, _, x2, x3, x4, _, σ => LB_X12_order_135 (LF_X12_order n) x2 x3 x4 σ
  | n + 1, 3, x1, x2, x3, x4, x6, σ => LB_X12_order_99 (LF_X12_order n) x1 x2 x3 x4 x6 σ
  | _ + 1, _ + 4, _, _, _, _, _, σ => (0, σ)
noncomputable def F_X12_order (a1 : Int32) (a2 : Int32) (σ : Sg) : Int32 × Sg := fb (F_X12_in a2 (-1 : Int32) (4 : Int32) σ) (fun r2 σ1 => (if r2 = 0 then ((-1 : Int32), σ1) else fb (F_X12_in a1 (1 : Int32) (12 : Int32) σ1) (fun r5 σ4 => (if r5 = 0 then ((-2 : Int32), σ4) else (if (gi σ4 74 0) ≤ (5 : Int32) then LF_X12_order 9000 0 a1 a2 (0 : Int32) 0 0 σ4 else ((-9 : Int32), σ4))))))
set_option maxRecDepth 100000 in
set_option maxHeartbeats 4000000 in
theorem kF_X12_order {l : Launch} {V : Vx} {a1 : Int32} {a2 : Int32} {σ0 : Sg} {Qk : Int32 → Sg → Prop} (m0 : MI σ0) (pre0 : (gi σ0 74 1).toInt ≤ 9999) (h9ret : ∀ (r : Int32) (σ' : Sg), MI σ' → Fr [74, 105, 106, 107, 108, 110, 129, 131, 132, 134, 135, 136, 137, 138, 139] [1, 30, 33] σ0 σ' → ((gi σ' 74 1).toInt = (gi σ0 74 1).toInt) → (CD σ0 σ' 110 110 6) → (F_X12_order a1 a2 σ0 = (r, σ')) → Qk r σ') : K_X12_order l V a1 a2 σ0 Qk := by
  refine e_X12_order (fun M hl hV hN C => ?_)
  subst hl
  subst hV
  obtain ⟨R9, H0⟩ : ∃ R9, F_X12_order a1 a2 σ0 = R9 := ⟨_, rfl⟩
  have T : ∀ n : Nat, (∀ (x1 : Int32) (x2 : Int32) (x3 : Int32) (σ : Sg), MI σ → Fr [74, 105, 106, 107, 108, 110, 129, 131, 132, 134, 135, 136, 137, 138, 139] [1, 30, 33] σ0 σ → (1 ≤ x1.toInt) → (x1.toInt ≤ 12) → (-1 ≤ x2.toInt) → (x2.toInt ≤ 4) → (0 ≤ x3.toInt) → (x3.toInt ≤ 6) → ((gi σ 74 1).toInt = (gi σ0 74 1).toInt) → (CD σ0 σ 110 110 6) → (CD σ0 σ 138 110 x3.toInt) → ((gi σ 74 0).toInt ≤ 5) → (LF_X12_order n 0 x1 x2 x3 0 0 σ = R9) → (7 - x3.toInt).toNat + 5000 < n → PS M 39 [(0, .ref 74), (1, .int x1), (2, .int x2), (3, .int x3)] [] σ (0, 0)) ∧ (∀ (x1 : Int32) (x2 : Int32) (x3 : Int32) (x4 : Int32) (σ : Sg), MI σ → Fr [74, 105, 106, 107, 108, 110, 129, 131, 132, 134, 135, 136, 137, 138, 139] [1, 30, 33] σ0 σ → (1 ≤ x1.toInt) → (x1.toInt ≤ 12) → (-1 ≤ x2.toInt) → (x2.toInt ≤ 4) → (0 ≤ x4.toInt) → (x4.toInt ≤ 120) → ((gi σ 74 1).toInt = (gi σ0 74 1).toInt) → (CD σ0 σ 138 110 6) → ((gi σ 74 0).toInt ≤ 5) → (LF_X12_order n 1 x1 x2 x3 x4 0 σ = R9) → (130 - x4.toInt).toNat * 20 + 15 < n → PS M 68 [(0, .ref 74), (1, .int x1), (2, .int x2), (3, .int x3), (4, .int x4)] [] σ (0, 0)) ∧ (∀ (x2 : Int32) (x3 : Int32) (x4 : Int32) (σ : Sg), MI σ → Fr [74, 105, 106, 107, 108, 110, 129, 131, 132, 134, 135, 136, 137, 138, 139] [1, 30, 33] σ0 σ → (-1 ≤ x2.toInt) → (x2.toInt ≤ 4) → (0 ≤ x4.toInt) → (x4.toInt ≤ 6) → ((gi σ 74 1).toInt = (gi σ0 74 1).toInt) → (CD σ0 σ 138 110 6) → (CD σ0 σ 110 110 x4.toInt) → (LF_X12_order n 2 0 x2 x3 x4 0 σ = R9) → (7 - x4.toInt).toNat < n → PS M 135 [(0, .ref 74), (2, .int x2), (3, .int x3), (4, .int x4)] [] σ (0, 0)) ∧ (∀ (x1 : Int32) (x2 : Int32) (x3 : Int32) (x4 : Int32) (x6 : Int32) (σ : Sg), MI σ → Fr [74, 105, 106, 107, 108, 110, 129, 131, 132, 134, 135, 136, 137, 138, 139] [1, 30, 33] σ0 σ → (1 ≤ x1.toInt) → (x1.toInt ≤ 12) → (-1 ≤ x2.toInt) → (x2.toInt ≤ 4) → (0 ≤ x4.toInt) → (x4.toInt ≤ 119) → (0 ≤ x6.toInt) → (x6.toInt ≤ 6) → ((gi σ 74 1).toInt = (gi σ0 74 1).toInt) → (CD σ0 σ 138 110 6) → ((gi σ 74 0).toInt ≤ 5) → (LF_X12_order n 3 x1 x2 x3 x4 x6 σ = R9) → (130 - x4.toInt).toNat * 20 + (7 - x6.toInt).toNat < n → PS M 99 [(0, .ref 74), (1, .int x1), (2, .int x2), (3, .int x3), (4, .int x4), (6, .int x6)] [] σ (0, 0)) := by
    intro n
    induction n with
    | zero => exact ⟨fun _ _ _ _ _ _ _ _ _ _ _ _ _ _ _ _ _ h8 => absurd h8 (Nat.not_lt_zero _), fun _ _ _ _ _ _ _ _ _ _ _ _ _ _ _ _ _ h8 => absurd h8 (Nat.not_lt_zero _), fun _ _ _ _ _ _ _ _ _ _ _ _ _ _ h8 => absurd h8 (Nat.not_lt_zero _), fun _ _ _ _ _ _ _ _ _ _ _ _ _ _ _ _ _ _ _ _ h8 => absurd h8 (Nat.not_lt_zero _)⟩
    | succ n ih =>
      obtain ⟨ih39, ih68, ih135, ih99⟩ := ih
      refine ⟨?_, ?_, ?_, ?_⟩
      · intro x1 x2 x3 σ mσ fσ lx1 ux1 lx2 ux2 lx3 ux3 i0 i1 i2 i3 H hmu
        replace H : LB_X12_order_39 (LF_X12_order n) x1 x2 x3 σ = R9 := H
        unfold LB_X12_order_39 at H
        refine s_X12_order_39 C hN ?_
        refine ⟨?_, ?_⟩
        · intro q_1
          replace H := f_t q_1 H
          have b_2 : (6 : Int) ≤ x3.toInt := Int32.le_iff_toInt_le.mp q_1
          have z_3 : (-1 : Int32).toInt = -1 := rfl
          have z_4 : (0 : Int32).toInt = 0 := rfl
          exact ih68 x1 x2 (-1 : Int32) (0 : Int32) σ mσ fσ (by omega) (by omega) (by omega) (by omega) (by omega) (by omega) (by first | with_reducible assumption | with_reducible rfl | omega | assumption | rfl) (by first | assumption | exact CD_le i2 (by omega)) (by first | with_reducible assumption | with_reducible rfl | omega | assumption | rfl) H (by omega)
        · intro q_1
          replace H := f_f q_1 H
          have b_5 : ¬ (6 : Int) ≤ x3.toInt := fun h9 => q_1 (Int32.le_iff_toInt_le.mpr h9)
          have hv_6 : vp_in x3 6 := vp_in_iff.mpr ⟨by omega, by omega⟩
          refine ⟨hv_6, ?_⟩
          refine ⟨hv_6, ?_⟩
          intro σ4 eσ4
          replace H := f_l eσ4 H
          have t_7 := MI_a110 mσ hv_6
          have mσ4 : MI σ4 := by rw [eσ4]; exact MIs_a138 mσ (by omega) (by omega)
          have fσ4 : Fr [74, 105, 106, 107, 108, 110, 129, 131, 132, 134, 135, 136, 137, 138, 139] [1, 30, 33] σ0 σ4 := by rw [eσ4]; exact Fr_si fσ (by decide +kernel) (fun h9 => absurd h9 (by decide +kernel))
          have k_8 : (gi σ4 74 0).toInt = (gi σ 74 0).toInt := gk_l eσ4 rfl
          have k_9 : (gi σ4 74 1).toInt = (gi σ 74 1).toInt := gk_l eσ4 rfl
          intro v5 ev5
          replace H := f_l ev5 H
          have t_10 : (x3 + (1 : Int32)).toInt = x3.toInt + 1 := i_add (x := x3) (y := (1 : Int32)) (by show (_ : Int) ≤ x3.toInt + 1; omega) (by show x3.toInt + 1 ≤ (_ : Int); omega)
          have t_11 : v5.toInt = (x3 + (1 : Int32)).toInt := congrArg Int32.toInt ev5
          exact ih39 x1 x2 v5 σ4 mσ4 fσ4 (by omega) (by omega) (by omega) (by omega) (by omega) (by omega) (by first | with_reducible assumption | with_reducible rfl | omega | assumption | rfl) (by first | exact CD_rf | (rw [eσ4]; exact CD_st i1 (by decide +kernel))) (by first | exact CD_0 (Int.le_refl 0) | (rw [show v5.toInt = x3.toInt + 1 from by omega, eσ4]; exact CD_step i2 i1 (by omega) (by omega))) (by first | with_reducible assumption | with_reducible rfl | omega | assumption | rfl) H (by omega)
      · intro x1 x2 x3 x4 σ mσ fσ lx1 ux1 lx2 ux2 lx4 ux4 i0 i1 i2 H hmu
        replace H : LB_X12_order_68 (LF_X12_order n) x1 x2 x3 x4 σ = R9 := H
        unfold LB_X12_order_68 at H
        refine s_X12_order_68 C hN ?_
        refine kF_X12_layOrder mσ (by omega) (by omega) (by first | with_reducible assumption | with_reducible rfl | omega | assumption | rfl) (fun r2 σ1 mσ1 cσ1 plσ1 phσ1 (pσ1_0 : (r2.toInt = 1 ∧ x4.toInt ≤ 119) ∨ r2.toInt = 0) hσ1 => ?_)
        replace H := f_b hσ1 H
        have fσ1 : Fr [74, 105, 106, 107, 108, 110, 129, 131, 132, 134, 135, 136, 137, 138, 139] [1, 30, 33] σ0 σ1 := Fr_tr fσ cσ1 (by decide +kernel) (by decide +kernel)
        have k_12 : (gi σ1 74 0).toInt = (gi σ 74 0).toInt := congrArg Int32.toInt (cσ1.2.1 0 (by decide +kernel))
        have k_13 : (gi σ1 74 1).toInt = (gi σ 74 1).toInt := congrArg Int32.toInt (cσ1.2.1 1 (by decide +kernel))
        try have hC9 : CD σ0 σ1 138 110 (6) := CD_fr (by first | with_reducible assumption | assumption) cσ1 (by decide +kernel)
        refine ⟨?_, ?_⟩
        · intro q_14
          replace H := f_t q_14 H
          have b_15 : r2.toInt = 0 := congrArg Int32.toInt q_14
          have z_16 : (0 : Int32).toInt = 0 := rfl
          exact ih135 x2 x3 (0 : Int32) σ1 mσ1 fσ1 (by omega) (by omega) (by omega) (by omega) (by first | with_reducible assumption | with_reducible rfl | omega | assumption | rfl) (by first | assumption | (rw [eσ7]; exact CD_st i1 (by decide +kernel))) (by first | exact CD_0 (Int.le_refl 0) | (rw [show v8.toInt = x4.toInt + 1 from by omega, eσ7]; exact CD_step i2 i1 (by omega) (by omega))) H (by omega)
        · intro q_14
          replace H := f_f q_14 H
          have b_17 : ¬ r2.toInt = 0 := fun h9 => q_14 (Int32.toInt_inj.mp h9)
          refine kF_X12_fromTheStart mσ1 (by omega) (by omega) (by first | with_reducible assumption | with_reducible rfl | omega | assumption | rfl) (fun r5 σ4 mσ4 cσ4 (pσ4_0 : (gi σ4 74 1).toInt = (gi σ1 74 1).toInt) hσ4 => ?_)
          replace H := f_b hσ4 H
          have fσ4 : Fr [74, 105, 106, 107, 108, 110, 129, 131, 132, 134, 135, 136, 137, 138, 139] [1, 30, 33] σ0 σ4 := Fr_tr fσ1 cσ4 (by decide +kernel) (by decide +kernel)
          have k_18 : (gi σ4 74 0).toInt = (gi σ1 74 0).toInt := congrArg Int32.toInt (cσ4.2.1 0 (by decide +kernel))
          try have hC9 : CD σ0 σ4 138 110 (6) := CD_fr (by first | with_reducible assumption | assumption) cσ4 (by decide +kernel)
          refine ⟨?_, ?_⟩
          · intro q_19
            replace H := f_t q_19 H
            have w_20 := Int32.toInt_lt x3
            have w_21 := Int32.le_toInt x3
            have w_22 := Int32.toInt_lt r5
            have w_23 := Int32.le_toInt r5
            have b_24 : x3.toInt < r5.toInt := Int32.lt_iff_toInt_lt.mp q_19
            have z_25 : (0 : Int32).toInt = 0 := rfl
            exact ih99 x1 x2 r5 x4 (0 : Int32) σ4 mσ4 fσ4 (by omega) (by omega) (by omega) (by omega) (by omega) (by omega) (by omega) (by omega) (by first | with_reducible assumption | with_reducible rfl | omega | assumption | rfl) (by first | assumption | (rw [eσ5]; exact CD_st i1 (by decide +kernel))) (by first | with_reducible assumption | with_reducible rfl | omega | assumption | rfl) H (by omega)
          · intro q_19
            replace H := f_f q_19 H
            have w_26 := Int32.toInt_lt x3
            have w_27 := Int32.le_toInt x3
            have w_28 := Int32.toInt_lt r5
            have w_29 := Int32.le_toInt r5
            have b_30 : ¬ x3.toInt < r5.toInt := fun h9 => q_19 (Int32.lt_iff_toInt_lt.mpr h9)
            intro v7 ev7
            replace H := f_l ev7 H
            have t_31 : (x4 + (1 : Int32)).toInt = x4.toInt + 1 := i_add (x := x4) (y := (1 : Int32)) (by show (_ : Int) ≤ x4.toInt + 1; omega) (by show x4.toInt + 1 ≤ (_ : Int); omega)
            have t_32 : v7.toInt = (x4 + (1 : Int32)).toInt := congrArg Int32.toInt ev7
            exact ih68 x1 x2 x3 v7 σ4 mσ4 fσ4 (by omega) (by omega) (by omega) (by omega) (by omega) (by omega) (by first | with_reducible assumption | with_reducible rfl | omega | assumption | rfl) (by first | assumption | exact CD_le i2 (by omega)) (by first | with_reducible assumption | with_reducible rfl | omega | assumption | rfl) H (by omega)
      · intro x2 x3 x4 σ mσ fσ lx2 ux2 lx4 ux4 i0 i1 i2 H hmu
        replace H : LB_X12_order_135 (LF_X12_order n) x2 x3 x4 σ = R9 := H
        unfold LB_X12_order_135 at H
        refine s_X12_order_135 C hN ?_
        refine ⟨?_, ?_⟩
        · intro q_33
          replace H := f_t q_33 H
          have b_34 : (6 : Int) ≤ x4.toInt := Int32.le_iff_toInt_le.mp q_33
          refine ⟨?_, ?_⟩
          · intro q_35
            replace H := f_t q_35 H
            have b_36 : (0 : Int) ≤ x2.toInt := Int32.le_iff_toInt_le.mp q_35
            refine ⟨?_, ?_⟩
            · intro q_37
              replace H := f_t q_37 H
              have t_38 := MI_f0 mσ
              have b_39 : (gi σ 74 0).toInt ≤ x2.toInt := Int32.le_iff_toInt_le.mp q_37
              have z_40 : (-5 : Int32).toInt = -5 := rfl
              exact h9ret (-5 : Int32) σ mσ fσ (by first | with_reducible assumption | with_reducible rfl | omega | assumption | rfl) (by first | exact CD_rf | exact CD_le i2 (by omega)) (H0.trans H.symm)
            · intro q_37
              replace H := f_f q_37 H
              have t_41 := MI_f0 mσ
              have b_42 : ¬ (gi σ 74 0).toInt ≤ x2.toInt := fun h9 => q_37 (Int32.le_iff_toInt_le.mpr h9)
              have hv_43 : vp_in x2 6 := vp_in_iff.mpr ⟨by omega, by omega⟩
              refine ⟨hv_43, ?_⟩
              have t_44 := MI_a139 mσ hv_43
              exact h9ret (gi σ 139 x2.toNatClampNeg) σ mσ fσ (by first | with_reducible assumption | with_reducible rfl | omega | assumption | rfl) (by first | exact CD_rf | exact CD_le i2 (by omega)) (H0.trans H.symm)
          · intro q_35
            replace H := f_f q_35 H
            have b_45 : ¬ (0 : Int) ≤ x2.toInt := fun h9 => q_35 (Int32.le_iff_toInt_le.mpr h9)
            exact h9ret x3 σ mσ fσ (by first | with_reducible assumption | with_reducible rfl | omega | assumption | rfl) (by first | exact CD_rf | exact CD_le i2 (by omega)) (H0.trans H.symm)
        · intro q_33
          replace H := f_f q_33 H
          have b_46 : ¬ (6 : Int) ≤ x4.toInt := fun h9 => q_33 (Int32.le_iff_toInt_le.mpr h9)
          have hv_47 : vp_in x4 6 := vp_in_iff.mpr ⟨by omega, by omega⟩
          refine ⟨hv_47, ?_⟩
          refine ⟨hv_47, ?_⟩
          intro σ7 eσ7
          replace H := f_l eσ7 H
          have t_48 := MI_a138 mσ hv_47
          have mσ7 : MI σ7 := by rw [eσ7]; exact MIs_a110 mσ (by omega) (by omega)
          have fσ7 : Fr [74, 105, 106, 107, 108, 110, 129, 131, 132, 134, 135, 136, 137, 138, 139] [1, 30, 33] σ0 σ7 := by rw [eσ7]; exact Fr_si fσ (by decide +kernel) (fun h9 => absurd h9 (by decide +kernel))
          have k_49 : (gi σ7 74 0).toInt = (gi σ 74 0).toInt := gk_l eσ7 rfl
          have k_50 : (gi σ7 74 1).toInt = (gi σ 74 1).toInt := gk_l eσ7 rfl
          intro v8 ev8
          replace H := f_l ev8 H
          have t_51 : (x4 + (1 : Int32)).toInt = x4.toInt + 1 := i_add (x := x4) (y := (1 : Int32)) (by show (_ : Int) ≤ x4.toInt + 1; omega) (by show x4.toInt + 1 ≤ (_ : Int); omega)
          have t_52 : v8.toInt = (x4 + (1 : Int32)).toInt := congrArg Int32.toInt ev8
          exact ih135 x2 x3 v8 σ7 mσ7 fσ7 (by omega) (by omega) (by omega) (by omega) (by first | with_reducible assumption | with_reducible rfl | omega | assumption | rfl) (by first | assumption | (rw [eσ7]; exact CD_st i1 (by decide +kernel))) (by first | exact CD_0 (Int.le_refl 0) | (rw [show v8.toInt = x4.toInt + 1 from by omega, eσ7]; exact CD_step i2 i1 (by omega) (by omega))) H (by omega)
      · intro x1 x2 x3 x4 x6 σ mσ fσ lx1 ux1 lx2 ux2 lx4 ux4 lx6 ux6 i0 i1 i2 H hmu
        replace H : LB_X12_order_99 (LF_X12_order n) x1 x2 x3 x4 x6 σ = R9 := H
        unfold LB_X12_order_99 at H
        refine s_X12_order_99 C hN ?_
        refine ⟨?_, ?_⟩
        · intro q_53
          replace H := f_t q_53 H
          have b_54 : (6 : Int) ≤ x6.toInt := Int32.le_iff_toInt_le.mp q_53
          intro v2 ev2
          replace H := f_l ev2 H
          have t_55 : (x4 + (1 : Int32)).toInt = x4.toInt + 1 := i_add (x := x4) (y := (1 : Int32)) (by show (_ : Int) ≤ x4.toInt + 1; omega) (by show x4.toInt + 1 ≤ (_ : Int); omega)
          have t_56 : v2.toInt = (x4 + (1 : Int32)).toInt := congrArg Int32.toInt ev2
          exact ih68 x1 x2 x3 v2 σ mσ fσ (by omega) (by omega) (by omega) (by omega) (by omega) (by omega) (by first | with_reducible assumption | with_reducible rfl | omega | assumption | rfl) (by first | assumption | exact CD_le i2 (by omega)) (by first | with_reducible assumption | with_reducible rfl | omega | assumption | rfl) H (by omega)
        · intro q_53
          replace H := f_f q_53 H
          have b_57 : ¬ (6 : Int) ≤ x6.toInt := fun h9 => q_53 (Int32.le_iff_toInt_le.mpr h9)
          have hv_58 : vp_in x6 6 := vp_in_iff.mpr ⟨by omega, by omega⟩
          refine ⟨hv_58, ?_⟩
          refine ⟨hv_58, ?_⟩
          intro σ5 eσ5
          replace H := f_l eσ5 H
          have t_59 := MI_a110 mσ hv_58
          have mσ5 : MI σ5 := by rw [eσ5]; exact MIs_a139 mσ (by omega) (by omega)
          have fσ5 : Fr [74, 105, 106, 107, 108, 110, 129, 131, 132, 134, 135, 136, 137, 138, 139] [1, 30, 33] σ0 σ5 := by rw [eσ5]; exact Fr_si fσ (by decide +kernel) (fun h9 => absurd h9 (by decide +kernel))
          have k_60 : (gi σ5 74 0).toInt = (gi σ 74 0).toInt := gk_l eσ5 rfl
          have k_61 : (gi σ5 74 1).toInt = (gi σ 74 1).toInt := gk_l eσ5 rfl
          intro v6 ev6
          replace H := f_l ev6 H
          have t_62 : (x6 + (1 : Int32)).toInt = x6.toInt + 1 := i_add (x := x6) (y := (1 : Int32)) (by show (_ : Int) ≤ x6.toInt + 1; omega) (by show x6.toInt + 1 ≤ (_ : Int); omega)
          have t_63 : v6.toInt = (x6 + (1 : Int32)).toInt := congrArg Int32.toInt ev6
          exact ih99 x1 x2 x3 x4 v6 σ5 mσ5 fσ5 (by omega) (by omega) (by omega) (by omega) (by omega) (by omega) (by omega) (by omega) (by first | with_reducible assumption | with_reducible rfl | omega | assumption | rfl) (by first | assumption | (rw [eσ5]; exact CD_st i1 (by decide +kernel))) (by first | with_reducible assumption | with_reducible rfl | omega | assumption | rfl) H (by omega)
  obtain ⟨U39, U68, U135, U99⟩ := T 9000
  have f0 : Fr [74, 105, 106, 107, 108, 110, 129, 131, 132, 134, 135, 136, 137, 138, 139] [1, 30, 33] σ0 σ0 := Fr_rf
  have mw := MI_f0 m0
  have H := H0
  unfold F_X12_order at H
  refine s_X12_order_0 C hN ?_
  refine kF_X12_in m0  (fun r2 σ1 mσ1 cσ1 plσ1 phσ1 (pσ1_0 : (r2.toInt = 1 ∧ ((-1) : Int) ≤ a2.toInt ∧ a2.toInt ≤ (4 : Int)) ∨ (r2.toInt = 0 ∧ (a2.toInt < ((-1) : Int) ∨ (4 : Int) < a2.toInt))) hσ1 => ?_)
  obtain rfl := Fr_nil cσ1
  replace H := f_b hσ1 H
  refine ⟨?_, ?_⟩
  · intro q_64
    replace H := f_f q_64 H
    have b_65 : ¬ r2.toInt = 0 := fun h9 => q_64 (Int32.toInt_inj.mp h9)
    refine kF_X12_in m0  (fun r5 σ4 mσ4 cσ4 plσ4 phσ4 (pσ4_0 : (r5.toInt = 1 ∧ (1 : Int) ≤ a1.toInt ∧ a1.toInt ≤ (12 : Int)) ∨ (r5.toInt = 0 ∧ (a1.toInt < (1 : Int) ∨ (12 : Int) < a1.toInt))) hσ4 => ?_)
    obtain rfl := Fr_nil cσ4
    replace H := f_b hσ4 H
    refine ⟨?_, ?_⟩
    · intro q_66
      replace H := f_f q_66 H
      have b_67 : ¬ r5.toInt = 0 := fun h9 => q_66 (Int32.toInt_inj.mp h9)
      refine ⟨?_, ?_⟩
      · intro q_68
        replace H := f_t q_68 H
        have t_69 := MI_f0 m0
        have b_70 : (gi σ0 74 0).toInt ≤ 5 := Int32.le_iff_toInt_le.mp q_68
        have z_71 : (0 : Int32).toInt = 0 := rfl
        exact U39 a1 a2 (0 : Int32) σ0 m0 f0 (by omega) (by omega) (by omega) (by omega) (by omega) (by omega) (by first | with_reducible assumption | with_reducible rfl | omega | assumption | rfl) (by first | exact CD_rf | (rw [eσ4]; exact CD_st i1 (by decide +kernel))) (by first | exact CD_0 (Int.le_refl 0) | (rw [show v5.toInt = x3.toInt + 1 from by omega, eσ4]; exact CD_step i2 i1 (by omega) (by omega))) (by first | with_reducible assumption | with_reducible rfl | omega | assumption | rfl) H (by omega)
      · intro q_68
        replace H := f_f q_68 H
        have t_72 := MI_f0 m0
        have b_73 : ¬ (gi σ0 74 0).toInt ≤ 5 := fun h9 => q_68 (Int32.le_iff_toInt_le.mpr h9)
        have z_74 : (-9 : Int32).toInt = -9 := rfl
        exact h9ret (-9 : Int32) σ0 m0 f0 (by first | with_reducible assumption | with_reducible rfl | omega | assumption | rfl) (by first | exact CD_rf | exact CD_le i2 (by omega)) (H0.trans H.symm)
    · intro q_66
      replace H := f_t q_66 H
      have b_75 : r5.toInt = 0 := congrArg Int32.toInt q_66
      have z_76 : (-2 : Int32).toInt = -2 := rfl
      exact h9ret (-2 : Int32) σ0 m0 f0 (by first | with_reducible assumption | with_reducible rfl | omega | assumption | rfl) (by first | exact CD_rf | exact CD_le i2 (by omega)) (H0.trans H.symm)
  · intro q_64
    replace H := f_t q_64 H
    have b_77 : r2.toInt = 0 := congrArg Int32.toInt q_64
    have z_78 : (-1 : Int32).toInt = -1 := rfl
    exact h9ret (-1 : Int32) σ0 m0 f0 (by first | with_reducible assumption | with_reducible rfl | omega | assumption | rfl) (by first | exact CD_rf | exact CD_le i2 (by omega)) (H0.trans H.symm)
/-! the model lays the order of a number; from the start -/
noncomputable def pLy (c : Int32) : Nat → Nat → Int32 → Int32 → Int32 → Int32 → Int32 → Int32 → Int32 → List (Nat × Int32) → Int32 × List (Nat × Int32)
  | 0, _, _, _, _, _, _, _, _, w => (0, w)
  | N + 1, 0, x1, x2, x3, _, _, _, _, w => if c < x3 then (if x1 < x2 then pLy c N 1 0 x2 (((1 : Int32) <<< (c &&& 31)) - (1 : Int32)) x1 (0 : Int32) 0 0 w else (0, w)) else pLy c N 0 x1 (x2 * x3) (x3 + 1) 0 0 0 0 w
  | N + 1, 1, _, x2, x3, x4, x5, _, _, w => if c ≤ x5 then (1, w) else pLy c N 2 0 (x2 / (c - x5)) x3 (x4 - x4 / (x2 / (c - x5)) * (x2 / (c - x5))) x5 (x4 / (x2 / (c - x5))) (0 : Int32) w
  | N + 1, 2, _, x2, x3, x4, x5, x6, x7, w => if ((x3 >>> (x7 &&& 31)) &&& (1 : Int32)) = (1 : Int32) then (if x6 ≤ 0 then pLy c N 1 0 x2 (x3 &&& (((1 : Int32) <<< (x7 &&& 31)) ^^^ (-1 : Int32))) x4 (x5 + 1) 0 0 ((x5.toNatClampNeg, x7) :: w) else pLy c N 3 0 x2 x3 x4 x5 x6 x7 w) else pLy c N 3 0 x2 x3 x4 x5 x6 x7 w
  | N + 1, 3, _, x2, x3, x4, x5, x6, x7, w => if ((x3 >>> (x7 &&& 31)) &&& (1 : Int32)) = (1 : Int32) then pLy c N 2 0 x2 x3 x4 x5 (x6 - (1 : Int32)) (x7 + 1) w else pLy c N 2 0 x2 x3 x4 x5 (x6 - (0 : Int32)) (x7 + 1) w
  | _ + 1, _ + 4, _, _, _, _, _, _, _, w => (0, w)
noncomputable def pRow (g : Nat → Int32) : List (Nat × Int32) → Nat → Int32
  | [], j => g j
  | (k, v) :: w, j => if j = k then v else pRow g w j
noncomputable def pLk : List (Nat × Int32) → Nat → Option Int32
  | [], _ => none
  | (k, v) :: w, j => if j = k then some v else pLk w j
theorem pLk_row {g : Nat → Int32} {v : Int32} {j : Nat} : ∀ w : List (Nat × Int32), pLk w j = some v → pRow g w j = v
  | [], h => by exact absurd h (by intro z; cases z)
  | (k, x) :: w, h => by
    unfold pLk at h
    unfold pRow
    by_cases c : j = k
    · rw [if_pos c] at h ⊢; exact Option.some.inj h
    · rw [if_neg c] at h ⊢; exact pLk_row w h
noncomputable def pOk (n q : Nat) : Bool := if q < oFac n then ((pLy (nI n) 3000 0 (nI q) (1 : Int32) (2 : Int32) 0 0 0 0 []).1 == 1) && (List.range n).all (fun k => pLk (pLy (nI n) 3000 0 (nI q) (1 : Int32) (2 : Int32) 0 0 0 0 []).2 k == some (nI (oF n q k))) else (pLy (nI n) 3000 0 (nI q) (1 : Int32) (2 : Int32) 0 0 0 0 []).1 == 0
theorem pAll : ∀ n, n < 6 → ∀ q, q < 121 → pOk n q = true := by decide +kernel
noncomputable def PLs (c : Int32) (σ0 : Sg) (w : List (Nat × Int32)) (σ : Sg) : Prop := gi σ 74 0 = c ∧ (∀ j, gi σ 110 j = pRow (gi σ0 110) w j) ∧ ∀ id k, id ≠ 110 → gi σ id k = gi σ0 id k
theorem hasT {x y : Int32} {σ : Sg} (h : ((x >>> (y &&& 31)) &&& (1 : Int32)) = (1 : Int32)) : F_X12_has x y σ = (1, σ) := by unfold F_X12_has; rw [if_pos h]
theorem hasF {x y : Int32} {σ : Sg} (h : ¬ ((x >>> (y &&& 31)) &&& (1 : Int32)) = (1 : Int32)) : F_X12_has x y σ = (0, σ) := by unfold F_X12_has; rw [if_neg h]
theorem lySim {c : Int32} {σ0 : Sg} : ∀ (N b : Nat) (x1 x2 x3 x4 x5 x6 x7 : Int32) (w : List (Nat × Int32)) (σ : Sg), PLs c σ0 w σ →
    Rt (LF_X12_layOrder N b x1 x2 x3 x4 x5 x6 x7 σ) (fun r σ' => ∃ p, p = pLy c N b x1 x2 x3 x4 x5 x6 x7 w ∧ r = p.1 ∧ PLs c σ0 p.2 σ') := by
  intro N
  induction N with
  | zero => intro b x1 x2 x3 x4 x5 x6 x7 w σ h; exact ⟨_, rfl, rfl, h⟩
  | succ N ih =>
    intro b x1 x2 x3 x4 x5 x6 x7 w σ h
    have h74 := h.1
    rcases b with _ | _ | _ | _ | b
    · show Rt (LB_X12_layOrder_4 (LF_X12_layOrder N) x1 x2 x3 σ) (fun r σ' => ∃ p, p = (if c < x3 then (if x1 < x2 then pLy c N 1 0 x2 (((1 : Int32) <<< (c &&& 31)) - (1 : Int32)) x1 (0 : Int32) 0 0 w else (0, w)) else pLy c N 0 x1 (x2 * x3) (x3 + 1) 0 0 0 0 w) ∧ r = p.1 ∧ PLs c σ0 p.2 σ')
      unfold LB_X12_layOrder_4
      rw [h74]
      by_cases q : c < x3
      · refine Rt_t q ?_
        by_cases q2 : x1 < x2
        · refine Rt_t q2 (Rt_fl (fun v e => ?_))
          rw [if_pos q, if_pos q2, ← e]
          exact ih 1 0 x2 v x1 (0 : Int32) 0 0 w σ h
        · refine Rt_f q2 (Rt_p ?_)
          rw [if_pos q, if_neg q2]
          exact ⟨_, rfl, rfl, h⟩
      · refine Rt_f q (Rt_fl (fun v e => Rt_fl (fun v' e' => ?_)))
        rw [if_neg q, ← e, ← e']
        exact ih 0 x1 v v' 0 0 0 0 w σ h
    · show Rt (LB_X12_layOrder_44 (LF_X12_layOrder N) x2 x3 x4 x5 σ) (fun r σ' => ∃ p, p = (if c ≤ x5 then (1, w) else pLy c N 2 0 (x2 / (c - x5)) x3 (x4 - x4 / (x2 / (c - x5)) * (x2 / (c - x5))) x5 (x4 / (x2 / (c - x5))) (0 : Int32) w) ∧ r = p.1 ∧ PLs c σ0 p.2 σ')
      unfold LB_X12_layOrder_44
      rw [h74]
      by_cases q : c ≤ x5
      · refine Rt_t q (Rt_p ?_)
        rw [if_pos q]
        exact ⟨_, rfl, rfl, h⟩
      · refine Rt_f q (Rt_fl (fun v e => Rt_fl (fun v' e' => Rt_fl (fun v2 e2 => ?_))))
        rw [if_neg q, ← e, ← e2, ← e']
        exact ih 2 0 v x3 v2 x5 v' (0 : Int32) w σ h
    · show Rt (LB_X12_layOrder_78 (LF_X12_layOrder N) x2 x3 x4 x5 x6 x7 σ) (fun r σ' => ∃ p, p = (if ((x3 >>> (x7 &&& 31)) &&& (1 : Int32)) = (1 : Int32) then (if x6 ≤ 0 then pLy c N 1 0 x2 (x3 &&& (((1 : Int32) <<< (x7 &&& 31)) ^^^ (-1 : Int32))) x4 (x5 + 1) 0 0 ((x5.toNatClampNeg, x7) :: w) else pLy c N 3 0 x2 x3 x4 x5 x6 x7 w) else pLy c N 3 0 x2 x3 x4 x5 x6 x7 w) ∧ r = p.1 ∧ PLs c σ0 p.2 σ')
      unfold LB_X12_layOrder_78
      by_cases q : ((x3 >>> (x7 &&& 31)) &&& (1 : Int32)) = (1 : Int32)
      · refine Rt_fe (hasT q) (Rt_f (by decide +kernel) ?_)
        by_cases q2 : x6 ≤ 0
        · refine Rt_t q2 (Rt_fl (fun σ6 e6 => Rt_fl (fun v e => Rt_fl (fun v' e' => ?_))))
          rw [if_pos q, if_pos q2, ← e, ← e']
          refine ih 1 0 x2 v x4 v' 0 0 ((x5.toNatClampNeg, x7) :: w) σ6 ⟨by rw [e6, gi_si_ne (Or.inl (by decide +kernel))]; exact h74, fun j => ?_, fun id k a => by rw [e6, gi_si_ne (Or.inl a)]; exact h.2.2 id k a⟩
          show gi σ6 110 j = if j = x5.toNatClampNeg then x7 else pRow (gi σ0 110) w j
          rw [e6, gi_si]
          by_cases y : j = x5.toNatClampNeg
          · rw [if_pos ⟨rfl, y⟩, if_pos y]
          · rw [if_neg (fun z => y z.2), if_neg y]; exact h.2.1 j
        · refine Rt_f q2 ?_
          rw [if_pos q, if_neg q2]
          exact ih 3 0 x2 x3 x4 x5 x6 x7 w σ h
      · refine Rt_fe (hasF q) (Rt_t rfl ?_)
        rw [if_neg q]
        exact ih 3 0 x2 x3 x4 x5 x6 x7 w σ h
    · show Rt (LB_X12_layOrder_93 (LF_X12_layOrder N) x2 x3 x4 x5 x6 x7 σ) (fun r σ' => ∃ p, p = (if ((x3 >>> (x7 &&& 31)) &&& (1 : Int32)) = (1 : Int32) then pLy c N 2 0 x2 x3 x4 x5 (x6 - (1 : Int32)) (x7 + 1) w else pLy c N 2 0 x2 x3 x4 x5 (x6 - (0 : Int32)) (x7 + 1) w) ∧ r = p.1 ∧ PLs c σ0 p.2 σ')
      unfold LB_X12_layOrder_93
      by_cases q : ((x3 >>> (x7 &&& 31)) &&& (1 : Int32)) = (1 : Int32)
      · refine Rt_fe (hasT q) (Rt_f (by decide +kernel) (Rt_fl (fun v e => Rt_fl (fun v' e' => ?_))))
        rw [if_pos q, ← e, ← e']
        exact ih 2 0 x2 x3 x4 x5 v v' w σ h
      · refine Rt_fe (hasF q) (Rt_t rfl (Rt_fl (fun v e => Rt_fl (fun v' e' => ?_))))
        rw [if_neg q, ← e, ← e']
        exact ih 2 0 x2 x3 x4 x5 v v' w σ h
    · exact ⟨_, rfl, rfl, h⟩
theorem layM {n q : Nat} {a : Int32} {σ : Sg} (hn : (gi σ 74 0).toInt = (n : Int)) (n5 : n ≤ 5) (ha : a.toInt = (q : Int)) (hq : q ≤ 120) :
    Rt (F_X12_layOrder a σ) (fun r σ' => (∀ id k, id ≠ 110 → gi σ' id k = gi σ id k) ∧ ((r = 1 ∧ q < oFac n ∧ ∀ k, k < n → (gi σ' 110 k).toInt = (oF n q k : Int)) ∨ (r = 0 ∧ oFac n ≤ q))) := by
  have cn := cl_eq (x := gi σ 74 0) (by omega)
  have ca := cl_eq (x := a) (by omega)
  have en : gi σ 74 0 = nI n := by rw [← show (gi σ 74 0).toNatClampNeg = n from by omega]; exact nI_ofI (by omega)
  have ea : a = nI q := by rw [← show a.toNatClampNeg = q from by omega]; exact nI_ofI (by omega)
  have ok := pAll n (by omega) q (by omega)
  unfold F_X12_layOrder
  rw [ea]
  refine Rt_w (lySim (c := nI n) (σ0 := σ) 3000 0 (nI q) (1 : Int32) (2 : Int32) 0 0 0 0 [] σ ⟨en, fun _ => rfl, fun _ _ _ => rfl⟩) (fun r σ' ⟨p, hp, hr, h⟩ => ⟨h.2.2, ?_⟩)
  unfold pOk at ok
  rw [← hp] at ok
  by_cases c : q < oFac n
  · rw [if_pos c, Bool.and_eq_true] at ok
    refine Or.inl ⟨by rw [hr]; exact eq_of_beq ok.1, c, fun k hk => ?_⟩
    have z := eq_of_beq (List.all_eq_true.mp ok.2 k (List.mem_range.mpr hk))
    have v := oVal n (by omega) q (by have := oFac_b n (by omega); omega) c k hk
    rw [h.2.1, pLk_row _ z, nI_toInt (by omega)]
  · rw [if_neg c] at ok
    exact Or.inr ⟨by rw [hr]; exact eq_of_beq ok, by omega⟩
theorem put13 {σ : Sg} : Ru (F_X12_putBack σ) (fun σ' => ∀ id k, 138 ≤ id → id ≤ 140 → gi σ' id k = gi σ id k) := by
  unfold F_X12_putBack
  refine Ru_fl (fun σ1 e1 => ?_)
  refine Ru_w (putLM 6 0 9 σ1 (0 : Int32) rfl (by decide +kernel) rfl) (fun σ' h id k a b => ?_)
  have := h.1.1 id k (fun z => z) (fun z => by (try dsimp only at z); omega)
  rw [this, e1, gi_si_ne (Or.inl (by omega))]
theorem sav13 {σ : Sg} : Ru (F_X12_save σ) (fun σ' => ∀ id k, 138 ≤ id → id ≤ 140 → gi σ' id k = gi σ id k) := by
  unfold F_X12_save
  refine Ru_fl (fun σ1 e1 => ?_)
  refine Ru_w (savLM 6 0 9 σ1 (0 : Int32) rfl (by decide +kernel) rfl) (fun σ' h id k a b => ?_)
  have := h.1.1 id k (fun z => by (try dsimp only at z); omega) (fun z => z)
  rw [this, e1, gi_si_ne (Or.inl (by omega))]
theorem MDy_at {n k : Nat} {D : Dyn} {z : Nat → Int} {σ : Sg} {v : Int32} {x : Int} (hv : v.toInt = x) (h : MDy n (dAt z D) σ) : MDy n (dAt (fun m => if m = k then x else z m) D) (si σ 105 k v) := by
  have e : ∀ id j, ¬ id = 105 → gi (si σ 105 k v) id j = gi σ id j := fun id j a => gi_si_ne (Or.inl a)
  refine ⟨by rw [e 74 1 (by decide +kernel)]; exact h.1, fun m hm => ?_, fun m hm => by rw [e 106 m (by decide +kernel)]; exact h.2.2.1 m hm, fun m hm => by rw [e 107 m (by decide +kernel)]; exact h.2.2.2.1 m hm, fun m hm => by rw [e 108 m (by decide +kernel)]; exact h.2.2.2.2 m hm⟩
  show (gi (si σ 105 k v) 105 m).toInt = if m = k then x else z m
  rw [gi_si]
  by_cases q : m = k
  · rw [if_pos ⟨rfl, q⟩, if_pos q]; exact hv
  · rw [if_neg (fun z => q z.2), if_neg q]; exact h.2.1 m hm
noncomputable def K13 (σ0 σ : Sg) : Prop := ∀ id k, 138 ≤ id → id ≤ 140 → gi σ id k = gi σ0 id k
theorem ftsLM {n j : Nat} {K : Int} {S : Stc} {D : Dyn} {a : Int32} {σ0 : Sg} (sb : SBd n S) (ha : a.toInt = (j : Int)) (hj : j ≤ 60) (hK : K ≤ 90000) (db : DBd n K D) : ∀ (k p N : Nat) (x2 : Int32) (z : Nat → Int) (σ : Sg), p + k = n → k < N → x2.toInt = (p : Int) → (∀ m, m < p → z m = 0) → MS n S σ → MDy n (dAt z D) σ → KP σ0 σ → K13 σ0 σ →
    Rt (LF_X12_fromTheStart N a x2 σ) (fun r σ' => r.toInt = tot n (aMins S j (dAt (fun _ => 0) D)) ∧ FXz σ0 σ' ∧ K13 σ0 σ') := by
  have n6 := sb.1
  have db0 : DBd n K (dAt (fun _ => 0) D) := DBd_at db (fun m _ => ⟨Int.le_refl _, by decide +kernel⟩)
  intro k
  induction k with
  | zero =>
    intro p N x2 z σ hp hN h2 hz hs hd hk h13
    have hn := hs.1
    obtain ⟨N, rfl⟩ : ∃ i, N = i + 1 := ⟨N - 1, by omega⟩
    have hd0 : MDy n (dAt (fun _ => 0) D) σ := ⟨hd.1, fun m hm => (hd.2.1 m hm).trans (hz m (by omega)), hd.2.2⟩
    show Rt (LB_X12_fromTheStart_6 (LF_X12_fromTheStart N) a x2 σ) _
    unfold LB_X12_fromTheStart_6
    refine Rt_t (i_le (by omega)) ?_
    refine Rt_fs (gosM9 sb ha hj (by omega) db0 hs.2 hd0) (fun σ2 ⟨d2, f2, _⟩ => ?_)
    obtain ⟨r, e, v⟩ := allM n6 (MS_q f2 hs).1 (aMins_b sb j _ K db0) d2
    refine Rt_fe e ?_
    exact Rt_fs (Ru_and (putM (KP_q n6 hk f2)) put13) (fun σ5 ⟨z5, p5⟩ => Rt_p ⟨v, z5, fun id k a b => by rw [p5 id k a b, FXq_i f2 (by omega)]; exact h13 id k a b⟩)
  | succ k ih =>
    intro p N x2 z σ hp hN h2 hz hs hd hk h13
    have hn := hs.1
    obtain ⟨N, rfl⟩ : ∃ i, N = i + 1 := ⟨N - 1, by omega⟩
    have ex := cl_eq (x := x2) (by omega)
    show Rt (LB_X12_fromTheStart_6 (LF_X12_fromTheStart N) a x2 σ) _
    unfold LB_X12_fromTheStart_6
    refine Rt_f (i_nle (by omega)) ?_
    rw [show x2.toNatClampNeg = p from by omega]
    refine Rt_fl (fun σ7 e7 => Rt_fl (fun v8 e8 => ?_))
    refine ih (p + 1) N v8 (fun m => if m = p then 0 else z m) σ7 (by omega) (by omega) (by rw [e8, i_inc (by omega)]; omega) (fun m hm => ?_) (by rw [e7]; exact MS_eq (fun id j h9 => gi_si_ne (Or.inl (by omega))) hs) (by rw [e7]; exact MDy_at (rfl : (0 : Int32).toInt = 0) hd) (by rw [e7]; exact KP_si (by omega) hk) (fun id k a b => by rw [e7, gi_si_ne (Or.inl (by omega))]; exact h13 id k a b)
    show (if m = p then 0 else z m) = 0
    by_cases q : m = p
    · rw [if_pos q]
    · rw [if_neg q]; exact hz m (by omega)
theorem ftsM {n j : Nat} {K : Int} {S : Stc} {D : Dyn} {a : Int32} {σ : Sg} (h : HMo n K S D σ) (ha : a.toInt = (j : Int)) (hj : j ≤ 60) : Rt (F_X12_fromTheStart a σ) (fun r σ' => r.toInt = tot n (aMins S j (dAt (fun _ => 0) D)) ∧ FXz σ σ' ∧ K13 σ σ') := by
  obtain ⟨sb, db, hK, hr, h99, hs, hd⟩ := h
  have n6 := sb.1
  unfold F_X12_fromTheStart
  exact Rt_fs (Ru_and (savM n6 hs hd) sav13) (fun σ1 ⟨⟨k1, s1, d1, _, _⟩, p1⟩ => ftsLM sb ha hj (by omega) db n 0 20 (0 : Int32) (D_at D) σ1 (by omega) (by omega) rfl (fun m hm => absurd hm (Nat.not_lt_zero m)) s1 d1 k1 p1)
/-! order: what the model answers -/
noncomputable def FXr (σ0 σ : Sg) : Prop := ∀ id k, ¬ Pz id k → id ≠ 110 → gi σ id k = gi σ0 id k
theorem FXr_i {σ σ1 : Sg} (f : FXr σ σ1) {id k : Nat} (h : id ≠ 129 ∧ id ≠ 110 ∧ (id < 131 ∨ 132 < id) ∧ (id < 134 ∨ 140 < id) ∧ (id ≠ 74 ∨ (k ≠ 30 ∧ k ≠ 33))) : gi σ1 id k = gi σ id k := f id k (fun z => by unfold Pz at z; omega) h.2.1
theorem FXr_z {σ σ1 σ2 : Sg} (f : FXr σ σ1) (g : FXz σ1 σ2) : FXr σ σ2 := fun id k a b => (g id k a).trans (f id k a b)
theorem FXr_l {σ σ1 σ2 : Sg} (f : FXr σ σ1) (g : ∀ id k, id ≠ 110 → gi σ2 id k = gi σ1 id k) : FXr σ σ2 := fun id k a b => (g id k b).trans (f id k a b)
theorem FXr_si {σ σ1 : Sg} {a k : Nat} {v : Int32} (f : FXr σ σ1) (h : a = 110 ∨ a = 138 ∨ a = 139) : FXr σ (si σ1 a k v) := fun id j x y => by
  have : id ≠ a := fun z => by
    rcases h with h | h | h
    · exact y (z.trans h)
    · exact x (by unfold Pz; omega)
    · exact x (by unfold Pz; omega)
  rw [gi_si_ne (Or.inl this)]; exact f id j x y
theorem MS_or {n : Nat} {S : Stc} {g : Nat → Nat} {σ0 σ : Sg} (f : FXr σ0 σ) (hl : ∀ p, p < S_r S → (gi σ 110 p).toInt = (g p : Int)) (h : MS n S σ0) : MS n (sOr g S) σ := by
  obtain ⟨h1, h2, h3, h4, h5, h6, h7, h8, h9⟩ := h
  exact ⟨by rw [FXr_i f (by omega)]; exact h1, by rw [FXr_i f (by omega)]; exact h2, hl, fun m hm => by rw [FXr_i f (by omega)]; exact h4 m hm, fun m hm => by rw [FXr_i f (by omega)]; exact h5 m hm, fun k hk => by rw [FXr_i f (by omega)]; exact h6 k hk, MH_eq (FXr_i f (by omega)) (fun id k a b => FXr_i f (by omega)) h7, h8, by rw [FXr_i f (by omega)]; exact h9⟩
theorem HMo_or {n : Nat} {K : Int} {S : Stc} {D : Dyn} {g : Nat → Nat} {σ0 σ : Sg} (f : FXr σ0 σ) (hg : ∀ p, p < n → g p < n) (hl : ∀ p, p < n → (gi σ 110 p).toInt = (g p : Int)) (h : HMo n K S D σ0) : HMo n K (sOr g S) D σ := by
  obtain ⟨sb, db, hK, hr, h99, hs, hd⟩ := h
  exact ⟨SBd_or sb hg, db, hK, hr, h99, MS_or f (fun p hp => hl p (by omega)) hs, MDy_eq (fun id k a => FXr_i f (by omega)) hd⟩
noncomputable def P139 (n : Nat) (b m : Int) (σ : Sg) : Prop := m = -1 ∨ ∃ q : Nat, b = (q : Int) ∧ ∀ k, k < n → (gi σ 139 k).toInt = (oF n q k : Int)
theorem P139_e {n : Nat} {b m : Int} {σ σ' : Sg} (e : ∀ k, gi σ' 139 k = gi σ 139 k) (h : P139 n b m σ) : P139 n b m σ' := by
  rcases h with h | ⟨q, h1, h2⟩
  · exact Or.inl h
  · exact Or.inr ⟨q, h1, fun k hk => by rw [e]; exact h2 k hk⟩
theorem om3 {M0 : Nat} {x1 x2 x3 x4 : Int32} {σ0 : Sg} {Q : Int32 → Sg → Prop} (ct : ∀ (N : Nat) (v : Int32) (σ : Sg), M0 ≤ N → v = x4 + 1 → (∀ p, p < 6 → gi σ 139 p = gi σ0 110 p) → (∀ id k, id ≠ 139 → gi σ id k = gi σ0 id k) → Rt (LF_X12_order N 1 x1 x2 x3 v 0 σ) Q) : ∀ (i k N : Nat) (x6 : Int32) (σ : Sg), i + k = 6 → i + 1 + M0 ≤ N → x6.toInt = (k : Int) → (∀ p, p < k → gi σ 139 p = gi σ0 110 p) → (∀ id k, id ≠ 139 → gi σ id k = gi σ0 id k) →
    Rt (LF_X12_order N 3 x1 x2 x3 x4 x6 σ) Q := by
  intro i
  induction i with
  | zero =>
    intro k N x6 σ hi hN h6 hp fr
    obtain ⟨N, rfl⟩ : ∃ i, N = i + 1 := ⟨N - 1, by omega⟩
    show Rt (LB_X12_order_99 (LF_X12_order N) x1 x2 x3 x4 x6 σ) _
    unfold LB_X12_order_99
    refine Rt_t (i_le (show (6 : Int) ≤ _ by omega)) (Rt_fl (fun v e => ?_))
    exact ct N v σ (by omega) e (fun p h => hp p (by omega)) fr
  | succ i ih =>
    intro k N x6 σ hi hN h6 hp fr
    obtain ⟨N, rfl⟩ : ∃ i, N = i + 1 := ⟨N - 1, by omega⟩
    have ex := cl_eq (x := x6) (by omega)
    show Rt (LB_X12_order_99 (LF_X12_order N) x1 x2 x3 x4 x6 σ) _
    unfold LB_X12_order_99
    refine Rt_f (i_nle (show _ < (6 : Int) by omega)) ?_
    rw [show x6.toNatClampNeg = k from by omega]
    refine Rt_fl (fun σ5 e5 => Rt_fl (fun v6 e6 => ?_))
    refine ih (k + 1) N v6 σ5 (by omega) (by omega) (by rw [e6, i_inc (by omega)]; omega) (fun p h => ?_) (fun id j a => by rw [e5, gi_si_ne (Or.inl a)]; exact fr id j a)
    rw [e5, gi_si]
    by_cases q : p = k
    · rw [if_pos ⟨rfl, q⟩, q]; exact fr 110 k (by decide +kernel)
    · rw [if_neg (fun z => q z.2)]; exact hp p (by omega)
theorem om1 {n j M0 : Nat} {K : Int} {S : Stc} {D : Dyn} {x1 x2 : Int32} {σ0 : Sg} {Q : Int32 → Sg → Prop} (h : HMo n K S D σ0) (n5 : n ≤ 5) (h1 : x1.toInt = (j : Int)) (hj : j ≤ 60)
    (ct : ∀ (N : Nat) (x3 : Int32) (b m : Int) (σ : Sg), M0 ≤ N → x3.toInt = m → (b, m) = oBest n S D j → FXr σ0 σ → (∀ k, k < 6 → gi σ 138 k = gi σ0 110 k) → P139 n b m σ → Rt (LF_X12_order N 2 0 x2 x3 (0 : Int32) 0 σ) Q) : ∀ (i q N : Nat) (x3 x4 : Int32) (b m : Int) (σ : Sg), i + q = oFac n → 20 * i + 10 + M0 ≤ N → x4.toInt = (q : Int) → x3.toInt = m → -1 ≤ m → aBst (oTt n S D j) i q b m = oBest n S D j → FXr σ0 σ → (∀ k, k < 6 → gi σ 138 k = gi σ0 110 k) → P139 n b m σ →
    Rt (LF_X12_order N 1 x1 x2 x3 x4 0 σ) Q := by
  have hfac := oFac_b n (by omega)
  have hn0 := h.2.2.2.2.2.1.1
  intro i
  induction i with
  | zero =>
    intro q N x3 x4 b m σ hi hN h4 h3 hm hb f s o
    obtain ⟨N, rfl⟩ : ∃ i, N = i + 1 := ⟨N - 1, by omega⟩
    show Rt (LB_X12_order_68 (LF_X12_order N) x1 x2 x3 x4 σ) _
    unfold LB_X12_order_68
    refine Rt_fb (layM (n := n) (by rw [FXr_i f (by omega)]; exact hn0) n5 h4 (by omega)) (fun r2 σ1 ⟨fr, c⟩ => ?_)
    rcases c with ⟨-, c, -⟩ | ⟨c, -⟩
    · omega
    · exact Rt_t c (ct N x3 b m σ1 (by omega) h3 hb (FXr_l f fr) (fun k hk => by rw [fr 138 k (by decide +kernel)]; exact s k hk) (P139_e (fun k => fr 139 k (by decide +kernel)) o))
  | succ i ih =>
    intro q N x3 x4 b m σ hi hN h4 h3 hm hb f s o
    obtain ⟨N, rfl⟩ : ∃ i, N = i + 1 := ⟨N - 1, by omega⟩
    have hq : q < oFac n := by omega
    have vf := oVal n (by omega) q (by omega) hq
    have tb : 0 ≤ oTt n S D j q ∧ oTt n S D j q ≤ 60000 := tot_b h.1.1 (aMins_b (SBd_or h.1 vf) j (dAt (fun _ => 0) D) K (DBd_at h.2.1 (fun m _ => ⟨Int.le_refl _, by decide +kernel⟩)))
    show Rt (LB_X12_order_68 (LF_X12_order N) x1 x2 x3 x4 σ) _
    unfold LB_X12_order_68
    refine Rt_fb (layM (n := n) (by rw [FXr_i f (by omega)]; exact hn0) n5 h4 (by omega)) (fun r2 σ1 ⟨fr, c⟩ => ?_)
    rcases c with ⟨c, -, cl⟩ | ⟨-, c⟩
    rotate_left
    · omega
    refine Rt_f (by rw [c]; decide) ?_
    have f1 := FXr_l f fr
    have hm1 := HMo_or f1 vf cl h
    refine Rt_fb (ftsM hm1 h1 hj) (fun r5 σ4 ⟨v, z4, k4⟩ => ?_)
    have v : r5.toInt = oTt n S D j q := v
    have f4 := FXr_z f1 z4
    have s4 : ∀ k, k < 6 → gi σ4 138 k = gi σ0 110 k := fun k hk => by rw [k4 138 k (by decide +kernel) (by decide +kernel), fr 138 k (by decide +kernel)]; exact s k hk
    have o4 : P139 n b m σ4 := P139_e (fun k => by rw [k4 139 k (by decide +kernel) (by decide +kernel), fr 139 k (by decide +kernel)]) o
    have l4 : ∀ p, p < n → (gi σ4 110 p).toInt = (oF n q p : Int) := fun p hp => by rw [FXz_i z4 (by omega)]; exact cl p hp
    rw [aBst_s'] at hb
    by_cases e : m < oTt n S D j q
    · rw [if_pos e] at hb
      refine Rt_t (i_lt (by omega)) ?_
      refine om3 (M0 := 20 * i + 10 + M0) (σ0 := σ4) (fun N' v' σ5 hN' ev p5 g5 => ?_) 6 0 N (0 : Int32) σ4 rfl (by omega) rfl (fun p hp => absurd hp (Nat.not_lt_zero p)) (fun _ _ _ => rfl)
      refine ih (q + 1) N' r5 v' (q : Int) (oTt n S D j q) σ5 (by omega) (by omega) (by rw [ev, i_inc (by omega)]; omega) v (by omega) hb (fun id k a b => ?_) (fun k hk => by rw [g5 138 k (by decide +kernel)]; exact s4 k hk) (Or.inr ⟨q, rfl, fun k hk => by rw [p5 k (by omega)]; exact l4 k hk⟩)
      have : id ≠ 139 := fun w => a (by unfold Pz; omega)
      rw [g5 id k this]; exact f4 id k a b
    · rw [if_neg e] at hb
      refine Rt_f (i_nlt (by omega)) (Rt_fl (fun v' ev => ?_))
      exact ih (q + 1) N x3 v' b m σ4 (by omega) (by omega) (by rw [ev, i_inc (by omega)]; omega) h3 hm hb f4 s4 o4
theorem om2 {n : Nat} {x2 x3 : Int32} {b m : Int} {R : Int} {σ0 : Sg} (n5 : n ≤ 5) (hn : (gi σ0 74 0).toInt = (n : Int)) (h3 : x3.toInt = m) (hm : -1 < m) (hr1 : (n : Int) ≤ x2.toInt → R = -5) (hr2 : ¬ (n : Int) ≤ x2.toInt → x2.toInt < 0 → R = m) (hr3 : ¬ (n : Int) ≤ x2.toInt → ¬ x2.toInt < 0 → R = (oF n b.toNat x2.toInt.toNat : Int)) : ∀ (i k N : Nat) (x4 : Int32) (σ : Sg), i + k = 6 → i < N → x4.toInt = (k : Int) → FXr σ0 σ → P139 n b m σ →
    Rt (LF_X12_order N 2 0 x2 x3 x4 0 σ) (fun r σ' => r.toInt = R ∧ FXr σ0 σ') := by
  intro i
  induction i with
  | zero =>
    intro k N x4 σ hi hN h4 f o
    have hn' : (gi σ 74 0).toInt = (n : Int) := by rw [FXr_i f (by omega)]; exact hn
    obtain ⟨N, rfl⟩ : ∃ i, N = i + 1 := ⟨N - 1, by omega⟩
    show Rt (LB_X12_order_135 (LF_X12_order N) x2 x3 x4 σ) _
    unfold LB_X12_order_135
    refine Rt_t (i_le (show (6 : Int) ≤ _ by omega)) ?_
    by_cases w : x2.toInt < 0
    · refine Rt_f (i_nle (show _ < (0 : Int) from w)) (Rt_p ⟨?_, f⟩)
      rw [hr2 (by omega) w]; exact h3
    · refine Rt_t (i_le (show (0 : Int) ≤ _ by omega)) ?_
      by_cases g : (n : Int) ≤ x2.toInt
      · refine Rt_t (i_le (by omega)) (Rt_p ⟨?_, f⟩)
        rw [hr1 g]; rfl
      · refine Rt_f (i_nle (by omega)) (Rt_p ⟨?_, f⟩)
        have ex := cl_eq (x := x2) (by omega)
        rcases o with o | ⟨q, o1, o2⟩
        · omega
        · rw [hr3 g w, show x2.toNatClampNeg = x2.toInt.toNat from by omega, o2 _ (by omega), o1, show ((q : Int)).toNat = q from by omega]
  | succ i ih =>
    intro k N x4 σ hi hN h4 f o
    obtain ⟨N, rfl⟩ : ∃ i, N = i + 1 := ⟨N - 1, by omega⟩
    show Rt (LB_X12_order_135 (LF_X12_order N) x2 x3 x4 σ) _
    unfold LB_X12_order_135
    refine Rt_f (i_nle (show _ < (6 : Int) by omega)) ?_
    refine Rt_fl (fun σ7 e7 => Rt_fl (fun v8 e8 => ?_))
    exact ih (k + 1) N v8 σ7 (by omega) (by omega) (by rw [e8, i_inc (by omega)]; omega) (by rw [e7]; exact FXr_si f (Or.inl rfl)) (P139_e (fun k => by rw [e7, gi_si_ne (Or.inl (by decide +kernel))]) o)
theorem om0 {M0 : Nat} {x1 x2 : Int32} {σ0 : Sg} {Q : Int32 → Sg → Prop} (ct : ∀ (N : Nat) (σ : Sg), M0 ≤ N → FXr σ0 σ → (∀ k, k < 6 → gi σ 138 k = gi σ0 110 k) → Rt (LF_X12_order N 1 x1 x2 (-1 : Int32) (0 : Int32) 0 σ) Q) : ∀ (i k N : Nat) (x3 : Int32) (σ : Sg), i + k = 6 → i + 1 + M0 ≤ N → x3.toInt = (k : Int) → FXr σ0 σ → (∀ p, gi σ 110 p = gi σ0 110 p) → (∀ p, p < k → gi σ 138 p = gi σ0 110 p) →
    Rt (LF_X12_order N 0 x1 x2 x3 0 0 σ) Q := by
  intro i
  induction i with
  | zero =>
    intro k N x3 σ hi hN h3 f l hp
    obtain ⟨N, rfl⟩ : ∃ i, N = i + 1 := ⟨N - 1, by omega⟩
    show Rt (LB_X12_order_39 (LF_X12_order N) x1 x2 x3 σ) _
    unfold LB_X12_order_39
    exact Rt_t (i_le (show (6 : Int) ≤ _ by omega)) (ct N σ (by omega) f (fun p h => hp p (by omega)))
  | succ i ih =>
    intro k N x3 σ hi hN h3 f l hp
    obtain ⟨N, rfl⟩ : ∃ i, N = i + 1 := ⟨N - 1, by omega⟩
    have ex := cl_eq (x := x3) (by omega)
    show Rt (LB_X12_order_39 (LF_X12_order N) x1 x2 x3 σ) _
    unfold LB_X12_order_39
    refine Rt_f (i_nle (show _ < (6 : Int) by omega)) ?_
    rw [show x3.toNatClampNeg = k from by omega]
    refine Rt_fl (fun σ4 e4 => Rt_fl (fun v5 e5 => ?_))
    refine ih (k + 1) N v5 σ4 (by omega) (by omega) (by rw [e5, i_inc (by omega)]; omega) (by rw [e4]; exact FXr_si f (Or.inr (Or.inl rfl))) (fun p => by rw [e4, gi_si_ne (Or.inl (by decide +kernel))]; exact l p) (fun p h => ?_)
    rw [e4, gi_si]
    by_cases q : p = k
    · rw [if_pos ⟨rfl, q⟩, q]; exact l k
    · rw [if_neg (fun z => q z.2)]; exact hp p (by omega)
theorem orderM {n : Nat} {K : Int} {S : Stc} {D : Dyn} {a1 a2 : Int32} {σ : Sg} (h : HMo n K S D σ) : Rt (F_X12_order a1 a2 σ) (fun r σ' => r.toInt = r_order n S D a1.toInt a2.toInt ∧ FXr σ σ') := by
  have hn := h.2.2.2.2.2.1.1
  have m1 : (-1 : Int32).toInt = -1 := rfl
  have m2 : (-2 : Int32).toInt = -2 := rfl
  have m9 : (-9 : Int32).toInt = -9 := rfl
  have p5 : (5 : Int32).toInt = 5 := rfl
  have rf : FXr σ σ := fun _ _ _ _ => rfl
  unfold F_X12_order
  refine Rt_fe F_in ?_
  by_cases c : -1 ≤ a2.toInt ∧ a2.toInt ≤ 4
  · rw [if_pos (show (-1 : Int32).toInt ≤ a2.toInt ∧ a2.toInt ≤ (4 : Int32).toInt from c)]
    refine Rt_f (by decide +kernel) ?_
    refine Rt_fe F_in ?_
    by_cases d : 1 ≤ a1.toInt ∧ a1.toInt ≤ 12
    · rw [if_pos (show (1 : Int32).toInt ≤ a1.toInt ∧ a1.toInt ≤ (12 : Int32).toInt from d)]
      refine Rt_f (by decide +kernel) ?_
      by_cases e : 5 < n
      · rw [r_or3 c d e]
        exact Rt_f (i_nle (by omega)) (Rt_p ⟨m9, rf⟩)
      · refine Rt_t (i_le (by omega)) ?_
        have hfac := oFac_b n (by omega)
        have bp := oBest_p (n := n) (j := a1.toInt.toNat) (b := 0) (m := 0) (by omega) h.1 h.2.1
        refine om0 (M0 := 4000) (fun N σ1 hN f1 s1 => ?_) 6 0 9000 (0 : Int32) σ rfl (by omega) rfl rf (fun _ => rfl) (fun p hp => absurd hp (Nat.not_lt_zero p))
        refine om1 (j := a1.toInt.toNat) (M0 := 10) h (by omega) (by omega) (by omega) (fun N' x3 b m σ2 hN' h3 hb f2 s2 o2 => ?_) (oFac n) 0 N (-1 : Int32) (0 : Int32) 0 (-1) σ1 rfl (by omega) rfl rfl (Int.le_refl _) rfl f1 s1 (Or.inl rfl)
        have e1 : (oBest n S D a1.toInt.toNat).1 = b := by rw [← hb]
        have e2 : (oBest n S D a1.toInt.toNat).2 = m := by rw [← hb]
        exact om2 (b := b) (m := m) (by omega) hn h3 (by omega) (fun g => r_or4 c d e g) (fun g w => (r_or5 c d e g w).trans e2) (fun g w => (r_or6 c d e g w).trans (by rw [e1])) 6 0 N' (0 : Int32) σ2 rfl (by omega) rfl f2 o2
    · rw [if_neg (show ¬ ((1 : Int32).toInt ≤ a1.toInt ∧ a1.toInt ≤ (12 : Int32).toInt) from d), r_or2 c d]
      exact Rt_t rfl (Rt_p ⟨m2, rf⟩)
  · rw [if_neg (show ¬ ((-1 : Int32).toInt ≤ a2.toInt ∧ a2.toInt ≤ (4 : Int32).toInt) from c), r_or1 c]
    exact Rt_t rfl (Rt_p ⟨m1, rf⟩)
theorem A_order {V : Vx} {a1 a2 r1 r2 : Int32} {σ σ1 σ2 : Sg} (q : RELM σ) (hI : INV V σ) (f : MA σ σ1) (h1 : F_X11_order a1 a2 σ = (r1, σ1)) (h2 : F_X12_order a1 a2 σ1 = (r2, σ2)) : r1 = r2 ∧ RWS σ1 σ2 := by
  obtain ⟨n, S, D, c, m, si⟩ := HXC q hI f
  have A := Rt_of (orderC (a1 := a1) (a2 := a2) c) h1
  have B := Rt_of (orderM (a1 := a1) (a2 := a2) m) h2
  exact ⟨i_eq (A.trans B.1.symm), fun id k a b _ => FXr_i B.2 (by omega)⟩
/-! methods in words of INV, with what they are as functions -/
set_option maxHeartbeats 4000000 in
theorem L7_X11_order {l : Launch} {V : Vx} {a1 : Int32} {a2 : Int32} {σ0 : Sg} {Qk : Int32 → Sg → Prop} (q : INV V σ0) (h9ret : ∀ (r : Int32) (σ' : Sg), INV V σ' → (FX (fun id => id = 34 ∨ id = 35 ∨ id = 36 ∨ id = 37 ∨ id = 38 ∨ id = 39 ∨ id = 40 ∨ id = 47 ∨ id = 48 ∨ id = 66 ∨ id = 67) (fun id k => (id = 33 ∧ k = 1) ∨ (id = 33 ∧ k = 3) ∨ (id = 33 ∧ k = 9) ∨ (id = 33 ∧ k = 10) ∨ (id = 33 ∧ k = 11)) σ0 σ') → (F_X11_order a1 a2 σ0 = (r, σ')) → Qk r σ') : K_X11_order l V a1 a2 σ0 Qk := by
  refine kF_X11_order q.1.1 q.1.2.1 q.1.2.2.2.2.2.1 (fun r σ' p0 p1 p2 p3 => h9ret r σ' ?_ p1 p3)
  exact INV_fx (FX_tr FX_rf p1 (by intro id h9; (try dsimp only at h9) <;> unfold Sf <;> first | exact h9.elim | omega) (by intro id k h9; (try dsimp only at h9) <;> unfold Sf Ff <;> first | exact h9.elim | omega)) p0 q
set_option maxHeartbeats 4000000 in
theorem L7_X12_order {l : Launch} {V : Vx} {a1 : Int32} {a2 : Int32} {σ0 : Sg} {Qk : Int32 → Sg → Prop} (q : INV V σ0) (h9ret : ∀ (r : Int32) (σ' : Sg), INV V σ' → (Fr [74, 105, 106, 107, 108, 110, 129, 131, 132, 134, 135, 136, 137, 138, 139] [1, 30, 33] σ0 σ') → ((gi σ' 74 1).toInt = (gi σ0 74 1).toInt) → (CD σ0 σ' 110 110 6) → (F_X12_order a1 a2 σ0 = (r, σ')) → Qk r σ') : K_X12_order l V a1 a2 σ0 Qk := by
  refine kF_X12_order q.2.1 q.2.2.2.2.2.2.1 (fun r σ' p0 p1 p2 p3 p4 => h9ret r σ' ?_ p1 p2 p3 p4)
  refine INV_m p1 (by decide +kernel) q ?_
  obtain ⟨-, q1, q2, q3, q4, q5, q6, q7⟩ := q
  exact ⟨p0, by rw [p1.2.1 12 (by decide +kernel), p1.2.1 11 (by decide +kernel)]; exact q2, by rw [p1.2.1 50 (by decide +kernel), p1.2.1 11 (by decide +kernel)]; exact q3, PL_cd q1 q4 p3 (by rw [p1.2.1 0 (by decide +kernel)]), PLI_fr q5 p1 (by decide +kernel) (by decide +kernel), by rw [p2]; exact q6, by rw [p1.2.1 52 (by decide +kernel)]; exact q7⟩
noncomputable def R_law : String := "NineMowersLaw"
noncomputable def lw_P (b : Addr) (xs : List Int32) (args : Array Value) (s : State) : Prop := args = #[.ref b] ∧ s.IntsAt b xs ∧ xs.length ≤ 3072 ∧ (Jvm.Cond.and given_1 narrow_1).before args s = true
noncomputable def lw_Q (_ : Array Value) (s : State) (o : Outcome) (t : State) : Prop := o = .returned (some (.int 1)) ∧ Framed s o t [] 600000 7302250
noncomputable def lw_Z (below : List Frame) (a : Array Value) (s : State) : State → Prop := fun t => ∃ o, t.status = .running ∧ Ended t below o ∧ lw_Q a s o t
/-- the law's own end, with 1 on the stack, nothing written that was there before, its room as the claim has it -/
theorem lw_ret {p : Program} {l : Launch} {e : Env} {s : State} {m : MethodId} {below : List Frame} {meth : Method} {c : Code} {b : Nat} (hx : p.tables.exec = Jvm.exec) (hb : c.code = code) (hr : meth.sig.returnType = ret) (hlocks : meth.locks = false) {pc : Nat} {H : Heap} {ls : Array Slot} (hdg : decode code pc = .ok (.ireturn, 1)) : W p l e room_1 s m #[Value.ref b] below meth c H [] 600000 7302250 (lw_Z below #[Value.ref b] s) (F0 m pc ls [.int 1]) := by
  intro T hT X
  obtain ⟨fs, hret, hrun, hended, hW, hframe⟩ := X.leave (v := some (.int 1)) (hlocks := hlocks) (fun h => by rw [hr] at h; cases h)
  have hmeth' : T.vm.method? m = some meth := X.method'
  refine ⟨T.setFrames fs, ?_, .returned (some (.int 1)), hrun, hended, rfl, ⟨_, rfl⟩, hW, hframe⟩
  jvm_step X.here [X.here.top, hx, hb, hdg, hmeth', hr, ret, narrow_b1]
  (try refine ⟨rfl, ?_⟩); (try refine ⟨rfl, ?_⟩)
  first | (intro acts; rw [hret _ acts rfl rfl rfl]) | rw [hret _ _ rfl rfl rfl]
  exact Steps.refl _
/-- what holds at the law's entry: the machine, the code, the tables' words (any of lw_tbl by 'hts w (by decide +kernel)'), the script of L ints xs at the cell b, what the Statement gives of the start (any of its parts by flat_of_before) -/
noncomputable def lw_At (p : Program) (s : State) (m : MethodId) (meth : Method) (c : Code) (b L : Nat) (xs : Nat → Int32) : Prop :=
  p.tables.exec = Jvm.exec ∧ c.code = code ∧ meth.sig.returnType = ret ∧ c.maxLocals = 4 ∧ s.vm.findClass R_law = some m.cls ∧ (∀ w ∈ lw_tbl, w.before #[Value.ref b] s = true) ∧ va_X b L xs s s.heap ∧ b < s.heap.size ∧ meth.locks = false ∧ (Jvm.Cond.and given_1 narrow_1).before #[Value.ref b] s = true
/-! the law's own rules -/
theorem Z_MQ {below : List Frame} {a : Array Value} {s t : State} {A : Addr → Prop} (h : lw_Z below a s t) : MQ below lw_Q a s 600000 7302250 A t := by
  obtain ⟨o, h1, h2, h3, h4⟩ := h
  exact ⟨o, h1, h2, ⟨h3, h4⟩, [], h4, fun _ q => absurd q List.not_mem_nil⟩
theorem MQ_Z {below : List Frame} {a : Array Value} {s t : State} {A : Addr → Prop} (h : MQ below lw_Q a s 600000 7302250 A t) : lw_Z below a s t := by
  obtain ⟨o, h1, h2, h3, _⟩ := h
  exact ⟨o, h1, h2, h3⟩
theorem W_mono {p : Program} {l : Launch} {e : Env} {R : Room} {s : State} {m : MethodId} {args : Array Value} {below : List Frame} {meth : Method} {c : Code} {H : Heap} {locs : List Loc} {cells slots : Nat} {Q Q' : State → Prop} {g : JFrame} (hq : ∀ t, Q t → Q' t) (h : W p l e R s m args below meth c H locs cells slots Q g) : W p l e R s m args below meth c H locs cells slots Q' g := fun T hT X => by
  obtain ⟨t, a, b⟩ := h T hT X
  exact ⟨t, a, hq t b⟩
/-- the script's row -/
noncomputable def SCR (M : Mx) (L : Nat) (xs : Nat → Int32) : Prop := match M with
  | (p, l, e, R, s, m, args, below, meth, c, V, nL, Q) => va_X (va V 500) L xs s s.heap ∧ va V 500 < s.heap.size ∧ (∀ q, vA V q → s.heap.size ≤ q) ∧ ∃ b, args = #[Value.ref b]
theorem SCR_vr {M : Mx} {V' : Vx} {L : Nat} {xs : Nat → Int32} (h : SCR M L xs) (v : VR (mV M) V') : SCR (mset M V') L xs := by
  obtain ⟨p, l, e, R, s, m, args, below, meth, c, V, nL, Q⟩ := M
  obtain ⟨h1, h2, h3, h4⟩ := h
  have e1 : va V' 500 = va V 500 := v.2.2 500 (by decide +kernel)
  have e2 : vA V' = vA V := v.1.2.2.1
  show va_X (va V' 500) L xs s s.heap ∧ va V' 500 < s.heap.size ∧ (∀ q, vA V' q → s.heap.size ≤ q) ∧ ∃ b, args = #[Value.ref b]
  rw [e1, e2]
  exact ⟨h1, h2, h3, h4⟩
theorem mNW_vr {M : Mx} {V' : Vx} (h : mNW M) : mNW (mset M V') := by
  obtain ⟨p, l, e, R, s, m, args, below, meth, c, V, nL, Q⟩ := M
  exact h
theorem UPV_vr {V V' : Vx} (v : VR V V') (h : UPV V) : UPV V' := by
  unfold UPV
  rw [v.1.2.2.1, v.1.2.2.2]
  exact h
section LawRules
variable {M : Mx} {cc : ByteArray} {ret : Option FieldType} {own : String} {Ts : List Cond} {rm rc0 : Room} {mc ms : Nat} {Qc : Array Value → State → Outcome → State → Prop} {pc : Nat} {lv lv' : List (Nat × Value)} {st : List Value} {σ : Sg} {kn : Nat × Nat} {L : Nat} {xs : Nat → Int32}
theorem P_scld (C : Cx M cc ret own Ts rm mc ms Qc) (S : SCR M L xs) {i : Int32} (hin : vp_in i L) (hd : decode cc pc = .ok (.iaload, 1)) (h : PS M (pc + 1) lv (.int (xs i.toNatClampNeg) :: st) σ kn) : PS M pc lv (.int i :: .ref 500 :: st) σ kn := by
  obtain ⟨p, l, e, R, s, m, args, below, meth, c, V, nL, Q⟩ := M
  intro ls H locs hl hG hS
  exact va_sld C.1 C.2.1 S.1 S.2.1 (fun q => by have h9 := S.2.2.1 _ q; have h8 := S.2.1; omega) hS hin hd (h ls H locs hl hG hS)
theorem P_sclen (C : Cx M cc ret own Ts rm mc ms Qc) (S : SCR M L xs) (hd : decode cc pc = .ok (.arraylength, 1)) (h : PS M (pc + 1) lv (.int (Int32.ofNat L) :: st) σ kn) : PS M pc lv (.ref 500 :: st) σ kn := by
  obtain ⟨p, l, e, R, s, m, args, below, meth, c, V, nL, Q⟩ := M
  intro ls H locs hl hG hS
  exact va_slen C.1 C.2.1 S.1 S.2.1 (fun q => by have h9 := S.2.2.1 _ q; have h8 := S.2.1; omega) hS hd (h ls H locs hl hG hS)
/-- one int of the script: script[i + n] -/
theorem P_cell (C : Cx M cc ret own Ts rm mc ms Qc) (S : SCR M L xs) {i n : Int32} {k : Int} (hk : Int32.ofInt k = n) (d0 : decode cc pc = .ok (.aload_n 0, 1)) (d1 : decode cc (pc + 1) = .ok (.iload_n 3, 1)) (d2 : decode cc (pc + 2) = .ok (.iconst k, 1)) (d3 : decode cc (pc + 3) = .ok (.iadd, 1)) (d4 : decode cc (pc + 4) = .ok (.iaload, 1)) (h0 : lv[0]? = some (0, .ref 500)) (h3 : lv[3]? = some (3, .int i)) (hin : vp_in (i + n) L)
    (h : PS M (pc + 5) lv (.int (xs (i + n).toNatClampNeg) :: st) σ kn) : PS M pc lv st σ kn :=
  P_aload_n C (k := 0) d0 0 h0 (P_iload_n C (k := 3) d1 3 h3 (P_iconst C d2 hk (P_iadd C d3 (P_scld C S hin d4 h))))
theorem lmap_lo {V V' : Vx} (h : VR V V') {lv : List (Nat × Value)} (hv : ∀ q ∈ lv, ∀ a, q.2 = Value.ref a → a < 1000) : lv.map (fun q => (q.1, cv V' q.2)) = lv.map (fun q => (q.1, cv V q.2)) := by
  apply List.map_congr_left
  intro q hm
  have e : cv V' q.2 = cv V q.2 := by
    cases hq : q.2 with
    | ref a =>
      show Value.ref (va V' a) = Value.ref (va V a)
      rw [h.2.2 a (hv q hm a hq)]
    | _ => rfl
  rw [e]
/-- a call that makes cells: the world goes on with more -/
theorem P_ciW {Qk : Int32 → Vx → Sg → Prop} {a : Array Value} {c1 s1 : Nat} {st0 : List Value} (hr : RS M pc lv st0 [] σ kn c1 s1 (QIW (mV M) Qk a)) (hv : ∀ q ∈ lv, ∀ a, q.2 = Value.ref a → a < 1000) (hvr : ∀ r V' σ', Qk r V' σ' → VR (mV M) V') (h : ∀ (r : Int32) (V' : Vx) (σ' : Sg), Qk r V' σ' → PS (mset M V') (pc + 3) lv [.int r] σ' (kn.1 + c1, kn.2 + s1)) : PS M pc lv st0 σ kn := by
  obtain ⟨p, l, e, R, s, m, args, below, meth, c, V, nL, Q⟩ := M
  intro ls H locs hl hG hS
  refine va_calli (hr ls H locs hl hG hS) hS (fun _ _ h => h) (fun _ h => h) (fun r u t H1 locs1 ht hvm hq hB hz hk hS1 => ?_)
  subst ht
  have v : VR V u.1 := hvr r u.1 u.2 hq
  have k := h r u.1 u.2 hq ls t.heap locs1 (by
    show lv_has ls nL (lv.map (fun q => (q.1, cv u.1 q.2)))
    rw [lmap_lo v hv]; exact hl) hB.1 (by rw [v.1.2.2.1]; exact hS1)
  exact k
theorem GGblindN {V : Vx} {av : List Value} {σ : Sg} : FrameBlind (va_Pc av (fun U => GG V σ U ∧ NWU U)) := fun a U g mk q => by
  obtain ⟨q0, ⟨q1, q2, q3, q4⟩, q5⟩ := q
  exact ⟨q0, ⟨q1, va_K.moved (u := U) (U := U.calling g mk a) (Vm.Alike.refl U.vm) q2, q4.1 U _ (Or.inr rfl) (Nat.le_refl _) (fun _ _ _ => rfl) q3, q4⟩, NWU_c q5⟩
theorem R_vN {idx n b ci z : Nat} {y : MethodName} {ws : List Cond} {As : List Value} {Cn : String} {T : u_T} {N : Nat} {Qm : Array Value → State → Outcome → State → Prop} (C : Cx M cc ret own Ts rm mc ms Qc) (hNW : mNW M) (k : KV own Ts rm idx Cn y ws rc0 n) (hn : As.length = n) (hk : kd b = (10 + ci, z)) (hcl : vwCl[ci]? = some (Cn, T, N)) (hi : b ∈ ids (mV M)) (hst : (st.map fun v => v.category).sum ≤ 8) (hd : decode cc pc = .ok (.invokevirtual idx, 3)) (hf : kn.1 + rc0.cells ≤ rm.cells ∧ kn.2 + rc0.slots ≤ rm.slots)
    (hM : KaN (mL M) (mV M) y ws rc0 rc0.cells rc0.slots (.ref b :: As) σ Qm) : RS M pc lv (As.reverse ++ .ref b :: st) st σ kn rc0.cells rc0.slots (Qm ((.ref b :: As).map (cv (mV M))).toArray) := by
  obtain ⟨p, l, e, R, s, m, args, below, meth, c, V, nL, Q⟩ := M
  intro ls H locs hl hG hS
  obtain ⟨hx, hb, hml, hown, hts, hr, hlk, hK, rfl, rfl, hw, hX⟩ := C
  obtain ⟨bytes, maxL, rt, ws', k1, k2, k3, k4⟩ := k
  obtain ⟨q0, hq⟩ := cell_at (V := V) (σ := σ) hi
  rw [ct_o hk] at hq
  rw [map_stk]
  exact va_runV (As := As.map (cv V)) (b := va V b) ⟨hx, hb, hml, hown, hts⟩ hM (cwV n hts k1 k2 rfl rfl k3 k4) ⟨GGblindN, va_recv hK hG.1 hcl hq, fun U hU hW => ⟨rfl, GG_mk hU hG hK hX hS hW, NWU_w hW hNW⟩⟩ rfl (by rw [List.length_map]; exact hn) hl.1 rfl (cat_sum hst) hd hf
end LawRules
theorem ofNat_i {n : Nat} (h : n ≤ 3072) : (Int32.ofNat n).toInt = (n : Int) := by
  rw [Int32.toInt_ofNat_of_lt (by omega)]
theorem lw_in {j L : Nat} {i n : Int32} (hi : i.toInt = 6 * (j : Int)) (hL : 6 * j + 6 ≤ L) (h3 : L ≤ 3072) (h0 : 0 ≤ n.toInt) (h5 : n.toInt ≤ 5) : vp_in (i + n) L := by
  have e : (i + n).toInt = i.toInt + n.toInt := i_add (by omega) (by omega)
  exact vp_in_iff.mpr ⟨by omega, by omega⟩
noncomputable abbrev lwv (i : Int32) : List (Nat × Value) := [(0, .ref 500), (1, .ref 0), (2, .ref 74), (3, .int i)]
theorem lwv_lo (i : Int32) : ∀ q ∈ lwv i, ∀ a, q.2 = Value.ref a → a < 1000 := by
  intro q hq a e
  simp only [lwv, List.mem_cons, List.not_mem_nil, or_false] at hq
  rcases hq with rfl | rfl | rfl | rfl <;> cases e <;> decide
/-- what holds at the law's own steps -/
noncomputable def LSt (M : Mx) (L : Nat) (xs : Nat → Int32) (j : Nat) (σ : Sg) (kn : Nat × Nat) : Prop := Cx M cL_law ret RL lw_tbl room_1 600000 7302250 lw_Q ∧ SCR M L xs ∧ INV (mV M) σ ∧ UPV (mV M) ∧ mNW M ∧ wfd (mV M) ∧ kn.1 ≤ 200 + 5 * j ∧ kn.2 ≤ 4000 + 142 * j ∧ mN M = 4
theorem LS_s {M : Mx} {L : Nat} {xs : Nat → Int32} {j : Nat} {σ σ' : Sg} {kn kn' : Nat × Nat} (S : LSt M L xs j σ kn) (h : INV (mV M) σ') (h1 : kn'.1 = kn.1) (h2 : kn'.2 = kn.2) : LSt M L xs (j + 1) σ' kn' := by
  obtain ⟨s1, s2, s3, s4, s5, s6, s7, s8, s9⟩ := S
  exact ⟨s1, s2, h, s4, s5, s6, by omega, by omega, s9⟩
theorem LS_v {M : Mx} {V' : Vx} {L : Nat} {xs : Nat → Int32} {j : Nat} {σ σ' : Sg} {kn kn' : Nat × Nat} (S : LSt M L xs j σ kn) (v : VR (mV M) V') (hw : wfd V') (h : INV V' σ') (h1 : kn'.1 ≤ kn.1 + 5) (h2 : kn'.2 ≤ kn.2 + 142) : LSt (mset M V') L xs (j + 1) σ' kn' := by
  obtain ⟨s1, s2, s3, s4, s5, s6, s7, s8, s9⟩ := S
  refine ⟨Cx_vr s1 v hw, SCR_vr s2 v, by rw [mset_V]; exact h, by rw [mset_V]; exact UPV_vr v s4, mNW_vr s5, by rw [mset_V]; exact hw, by omega, by omega, by rw [mset_N]; exact s9⟩
theorem LS_k {M : Mx} {L : Nat} {xs : Nat → Int32} {j : Nat} {σ : Sg} {kn : Nat × Nat} (S : LSt M L xs j σ kn) (hL : 6 * j ≤ 3072) {c n : Nat} (hc : c ≤ 5) (hn : n ≤ 142) : kn.1 + c ≤ room_1.cells ∧ kn.2 + n ≤ room_1.slots := by
  obtain ⟨s1, s2, s3, s4, s5, s6, s7, s8, s9⟩ := S
  refine ⟨?_, ?_⟩
  · show kn.1 + c ≤ 600000; omega
  · show kn.2 + n ≤ 7302250; omega
/-- the end -/
theorem P_lw {M : Mx} {L : Nat} {xs : Nat → Int32} {j : Nat} {σ : Sg} {kn : Nat × Nat} {lv : List (Nat × Value)} (S : LSt M L xs j σ kn) (hL : 6 * j ≤ 3078) : PS M 1388 lv [.int 1] σ kn := by
  obtain ⟨s1, s2, s3, s4, s5, s6, s7, s8, s9⟩ := S
  obtain ⟨p, l, e, R, s, m, args, below, meth, c, V, nL, Q⟩ := M
  intro ls H locs hl hG hS
  obtain ⟨hx, hb, hml, hown, hts, hr, hlk, hK, rfl, rfl, hw, hX⟩ := s1
  obtain ⟨_, _, h3, b, rfl⟩ := s2
  refine va_forget (fun q hq => h3 _ (hS.2.2 q hq)) ?_
  refine W.widen (show kn.1 ≤ 600000 by omega) (show kn.2 ≤ 7302250 by omega) ?_
  exact W_mono (fun t q => Z_MQ q) (lw_ret hx hb hr hlk dL_law_1388)
