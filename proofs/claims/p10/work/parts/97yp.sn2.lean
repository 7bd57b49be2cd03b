/-! seen ones and plans: image, undo -/
theorem becLF {c a : Nat} : ∀ (N : Nat) (x : Int32) (σ : Sg), Ru (LF_X1_becomes c a N x σ) (fun σ' => ∀ id k, id < c + 1 ∨ c + 7 < id → gi σ' id k = gi σ id k) := by
  intro N
  induction N with
  | zero => intro x σ; exact fun id k _ => rfl
  | succ N ih =>
    intro x σ
    show Ru (LB_X1_becomes_42 c a (LF_X1_becomes c a N) x σ) _
    unfold LB_X1_becomes_42
    by_cases q : (6 : Int32) ≤ x
    · refine Ru_t q (Ru_fl (fun σ2 e2 => Ru_p (fun id k h => ?_)))
      rw [e2, gi_sia, if_neg (by omega)]
    · refine Ru_f q ?_
      refine Ru_fl (fun σ5 e5 => Ru_fl (fun σ9 e9 => Ru_fl (fun σ12 e12 => Ru_fl (fun σ15 e15 => Ru_fl (fun σ18 e18 => Ru_fl (fun σ21 e21 => Ru_fl (fun v22 _ => ?_)))))))
      refine Ru_w (ih v22 σ21) (fun σ' h id k z => ?_)
      rw [h id k z, e21, gi_si_ne (Or.inl (by omega)), e18, gi_si_ne (Or.inl (by omega)), e15, gi_si_ne (Or.inl (by omega)), e12, gi_si_ne (Or.inl (by omega)), e9, gi_si_ne (Or.inl (by omega)), e5, gi_sr]
theorem becF {c a : Nat} {σ : Sg} : Ru (F_X1_becomes c a σ) (fun σ' => ∀ id k, id < c ∨ c + 7 < id → gi σ' id k = gi σ id k) := by
  unfold F_X1_becomes
  refine Ru_fl (fun σ1 e1 => Ru_fl (fun σ2 e2 => Ru_fl (fun σ3 e3 => ?_)))
  cases g : gr σ3 a 10 with
  | none => exact fun id k _ => rfl
  | some f =>
    refine Ru_o rfl ?_
    refine Ru_fl (fun σ5 e5 => Ru_fl (fun σ6 e6 => ?_))
    refine Ru_w (becLF 9 (0 : Int32) σ6) (fun σ' h id k z => ?_)
    rw [h id k (by omega), e6, gi_si_ne (Or.inl (by omega)), e5, gi_sr, e3, gi_si_ne (Or.inl (by omega)), e2, gi_si_ne (Or.inl (by omega)), e1, gi_si_ne (Or.inl (by omega))]
theorem bec5 {c a n : Nat} {σ : Sg} (hc : nl c = n) (ha : nl a = n) (hn : n ≤ 1000) (h : a ≠ c) (h2 : a + 1 ≠ c + 1) (h3 : a + 1 ≠ c) : Ru (F_X5_becomes c a σ) (fun σ' => gi σ' c 1 = gi σ a 1 ∧ (∀ k, k < n → gi σ' (c + 1) k = gi σ (a + 1) k) ∧ ∀ id k, id ≠ c → id ≠ c + 1 → gi σ' id k = gi σ id k) := by
  have en : (Int32.ofNat n).toInt = (n : Int) := Int32.toInt_ofNat_of_lt (by omega)
  unfold F_X5_becomes
  refine Ru_fl (fun σ1 e1 => Ru_fl (fun v2 e2 => Ru_fl (fun σ3 e3 => ?_)))
  have v : v2.toInt = (n : Int) := by rw [e2, jmin_f, hc, ha]; split <;> omega
  have ev := cl_eq (x := v2) (by omega)
  refine Ru_p ⟨?_, fun k hk => ?_, fun id k q1 q2 => ?_⟩
  · rw [e3, gi_sia, if_neg (by omega), e1, gi_si_eq]
  · rw [e3, gi_sia, if_pos rfl, show (0 : Int32).toNatClampNeg = 0 from rfl, show v2.toNatClampNeg = n from by omega, cpy_in _ _ hk, e1]
    exact gi_si_ne (Or.inl h3)
  · rw [e3, gi_sia, if_neg q2, e1, gi_si_ne (Or.inl q1)]
noncomputable def TLD (σ : Sg) (c : Nat) (σ' : Sg) (a : Nat) : Prop := gi σ' (c + 8) 1 = gi σ (a + 8) 1 ∧ (∀ k, k < 18 → gi σ' (c + 9) k = gi σ (a + 9) k) ∧ gi σ' (c + 10) 1 = gi σ (a + 10) 1 ∧ (∀ k, k < 10 → gi σ' (c + 11) k = gi σ (a + 11) k)
theorem nl13 : nl 13 = nl 29 := by decide
theorem becT {c a : Nat} {σ : Sg} (h : (c = 17 ∧ a = 1) ∨ (c = 1 ∧ a = 17)) : Ru (F_X1_becomesTold c a σ) (fun σ' => TLD σ c σ' a) := by
  unfold F_X1_becomesTold
  refine Ru_fs (bec5 (n := 18) (by rcases h with h | h <;> rw [h.1] <;> decide) (by rcases h with h | h <;> rw [h.2] <;> decide) (by decide) (by omega) (by omega) (by omega)) (fun σ1 ⟨a1, a2, a3⟩ => ?_)
  refine Ru_fs (bec5 (n := 10) (by rcases h with h | h <;> rw [h.1] <;> decide) (by rcases h with h | h <;> rw [h.2] <;> decide) (by decide) (by omega) (by omega) (by omega)) (fun σ2 ⟨b1, b2, b3⟩ => ?_)
  refine Ru_fs (bec5 (n := nl 29) (by rcases h with h | h <;> rw [h.1] <;> first | rfl | exact nl13) (by rcases h with h | h <;> rw [h.2] <;> first | rfl | exact nl13) (by decide) (by omega) (by omega) (by omega)) (fun σ3 ⟨d1, d2, d3⟩ => ?_)
  refine Ru_p ⟨?_, fun k hk => ?_, ?_, fun k hk => ?_⟩
  · rw [d3 _ _ (by omega) (by omega), b3 _ _ (by omega) (by omega), a1]
  · rw [d3 _ _ (by omega) (by omega), b3 _ _ (by omega) (by omega)]; exact a2 k hk
  · rw [d3 _ _ (by omega) (by omega), b1, a3 _ _ (by omega) (by omega)]
  · rw [d3 _ _ (by omega) (by omega)]; exact (b2 k hk).trans (a3 _ _ (by omega) (by omega))
theorem TLD_img {σ σ1 : Sg} {r : Int32} (h : F_X11_image σ = (r, σ1)) : TLD σ 17 σ1 1 := by
  have q : Rt (F_X11_image σ) (fun _ σ' => TLD σ 17 σ' 1) := by
    unfold F_X11_image
    refine Rt_fs (becF (c := 17) (a := 1)) (fun s1 g1 => Rt_fs (becT (Or.inl ⟨rfl, rfl⟩)) (fun s2 ⟨t1, t2, t3, t4⟩ => Rt_fl (fun s3 e3 => Rt_p ?_)))
    refine ⟨?_, fun k hk => ?_, ?_, fun k hk => ?_⟩
    · rw [e3, gi_si_ne (Or.inl (by decide)), t1, g1 _ _ (by decide)]
    · rw [e3, gi_si_ne (Or.inl (by decide)), t2 k hk, g1 _ _ (by decide)]
    · rw [e3, gi_si_ne (Or.inl (by decide)), t3, g1 _ _ (by decide)]
    · rw [e3, gi_si_ne (Or.inl (by decide)), t4 k hk, g1 _ _ (by decide)]
  exact Rt_of q h
theorem TLD_und {σ σ1 : Sg} {r : Int32} (hz : ¬ gi σ 0 3 = 0) (h : F_X11_undo σ = (r, σ1)) : TLD σ 1 σ1 17 := by
  have q : Rt (F_X11_undo σ) (fun _ σ' => TLD σ 1 σ' 17) := by
    unfold F_X11_undo
    refine Rt_f hz ?_
    refine Rt_fs (becF (c := 1) (a := 17)) (fun s1 g1 => Rt_fs (becT (Or.inr ⟨rfl, rfl⟩)) (fun s2 ⟨t1, t2, t3, t4⟩ => Rt_p ?_))
    refine ⟨?_, fun k hk => ?_, ?_, fun k hk => ?_⟩
    · rw [t1, g1 _ _ (by decide)]
    · rw [t2 k hk, g1 _ _ (by decide)]
    · rw [t3, g1 _ _ (by decide)]
    · rw [t4 k hk, g1 _ _ (by decide)]
  exact Rt_of q h
theorem SNr_cp {σ σ' : Sg} {c w c' w' : Nat} (b : (gi σ (c + 8) 1).toInt ≤ 18) (hc : (gi σ c 1).toInt ≤ (gi σ' c' 1).toInt) (e8 : gi σ' (c' + 8) 1 = gi σ (c + 8) 1) (e9 : ∀ k, k < 18 → gi σ' (c' + 9) k = gi σ (c + 9) k) (e : ∀ k, k < 6 → gi σ' w' k = gi σ w k ∧ gi σ' (w' + 1) k = gi σ (w + 1) k ∧ gi σ' (w' + 2) k = gi σ (w + 2) k) (h : SNr σ c w) : SNr σ' c' w' := by
  intro k hk
  rw [e8] at hk
  obtain ⟨h1, h2, h3⟩ := h k hk
  obtain ⟨e1, e2, e3⟩ := e k (by omega)
  rw [e9 _ (by omega), e9 _ (by omega), e9 _ (by omega), e1, e2, e3]
  exact ⟨h1, ⟨h2.1, by omega⟩, h3⟩
theorem PNr_cp {σ σ' : Sg} {c w c' w' : Nat} (b : (gi σ (c + 10) 1).toInt ≤ 10) (e8 : gi σ' (c' + 10) 1 = gi σ (c + 10) 1) (e9 : ∀ k, k < 10 → gi σ' (c' + 11) k = gi σ (c + 11) k) (e : ∀ k, k < 10 → gi σ' w' k = gi σ w k) (h : PNr σ c w) : PNr σ' c' w' := by
  intro k hk
  rw [e8] at hk
  rw [e9 k (by omega), e k (by omega)]
  exact h k hk
theorem SNP_image {r1 r2 : Int32} {σ σ1 σ2 : Sg} (b9 : (gi σ 9 1).toInt ≤ 18) (b11 : (gi σ 11 1).toInt ≤ 10) (s : SNP σ) (f : FX (fun id => id = 18 ∨ id = 19 ∨ id = 20 ∨ id = 21 ∨ id = 22 ∨ id = 23 ∨ id = 24 ∨ id = 26 ∨ id = 28 ∨ id = 30) (fun id k => (id = 0 ∧ k = 3) ∨ (id = 17 ∧ k = 1) ∨ (id = 17 ∧ k = 3) ∨ (id = 17 ∧ k = 9) ∨ (id = 17 ∧ k = 10) ∨ (id = 17 ∧ k = 11) ∨ (id = 25 ∧ k = 1) ∨ (id = 27 ∧ k = 1) ∨ (id = 29 ∧ k = 1)) σ σ1) (y : CPY σ σ1 17 1) (h1 : F_X11_image σ = (r1, σ1)) (h2 : F_X12_image σ1 = (r2, σ2)) : SNP σ2 := by
  obtain ⟨s1, s2, s3, s4⟩ := s
  obtain ⟨t1, t2, t3, t4⟩ := TLD_img h1
  obtain ⟨k1, -, k3, -, mo⟩ := N_mimage h2
  have y1 := y.1.1
  have fi : ∀ id k, ¬ ((18 ≤ id ∧ id ≤ 30) ∨ id = 0 ∨ id = 17) → gi σ1 id k = gi σ id k := fun id k h9 => f.1 id k (by intro z; (try dsimp only at z); omega) (by intro z; (try dsimp only at z); omega)
  have gx : ∀ id k, ¬ (156 ≤ id ∧ id ≤ 168) → id ≠ 74 → gi σ2 id k = gi σ1 id k := fun id k h9 h8 => mo id k (by omega)
  have g0 : ∀ id k, ¬ ((18 ≤ id ∧ id ≤ 30) ∨ id = 0 ∨ id = 17) → ¬ (156 ≤ id ∧ id ≤ 168) → id ≠ 74 → gi σ2 id k = gi σ id k := fun id k a b c => by rw [gx id k b c, fi id k a]
  refine ⟨SNr_eq (by rw [g0 1 1 (by omega) (by omega) (by omega)]; exact Int.le_refl _) (g0 _ _ (by omega) (by omega) (by omega)) (fun k => g0 _ k (by omega) (by omega) (by omega)) (fun a k x y => g0 a k (by omega) (by omega) (by omega)) s1, ?_, PNr_eq (g0 _ _ (by omega) (by omega) (by omega)) (fun k => g0 _ k (by omega) (by omega) (by omega)) (fun k => g0 _ k (by omega) (by omega) (by omega)) s3, ?_⟩
  · refine SNr_cp b9 (by rw [gx 17 1 (by omega) (by omega), y1]; exact Int.le_refl _) (by rw [gx _ _ (by omega) (by omega)]; exact t1) (fun k hk => by rw [gx _ _ (by omega) (by omega)]; exact t2 k hk) (fun k hk => ?_) s1
    obtain ⟨-, -, -, -, -, -, -, m164, m165, m166⟩ := k1 k hk
    refine ⟨by rw [m164, fi 142 k (by omega)], ?_, ?_⟩
    · exact m165.trans (fi 143 k (by omega))
    · exact m166.trans (fi 144 k (by omega))
  · exact PNr_cp b11 (by rw [gx _ _ (by omega) (by omega)]; exact t3) (fun k hk => by rw [gx _ _ (by omega) (by omega)]; exact t4 k hk) (fun k hk => by rw [k3 k hk, fi 147 k (by omega)]) s3
theorem SNP_undo {r1 r2 : Int32} {σ σ1 σ2 : Sg} (b9 : (gi σ 25 1).toInt ≤ 18) (b11 : (gi σ 27 1).toInt ≤ 10) (ht : (gi σ 0 3).toInt = (gi σ 74 49).toInt) (s : SNP σ) (f : FX (fun id => id = 10 ∨ id = 12 ∨ id = 14 ∨ id = 2 ∨ id = 3 ∨ id = 4 ∨ id = 5 ∨ id = 6 ∨ id = 7 ∨ id = 8) (fun id k => (id = 1 ∧ k = 1) ∨ (id = 1 ∧ k = 3) ∨ (id = 1 ∧ k = 9) ∨ (id = 1 ∧ k = 10) ∨ (id = 1 ∧ k = 11) ∨ (id = 11 ∧ k = 1) ∨ (id = 13 ∧ k = 1) ∨ (id = 9 ∧ k = 1)) σ σ1) (y0 : (gi σ 0 3).toInt ≠ 0 → CPY σ σ1 1 17) (y9 : (gi σ 0 3).toInt = 0 → σ1 = σ) (h1 : F_X11_undo σ = (r1, σ1)) (h2 : F_X12_undo σ1 = (r2, σ2)) : SNP σ2 := by
  by_cases z : (gi σ 0 3).toInt = 0
  · have e := y9 z
    subst e
    have e49 : gi σ1 74 49 = 0 := i_eq (b := (0 : Int32)) (by show (gi σ1 74 49).toInt = 0; omega)
    unfold F_X12_undo at h2
    rw [if_pos e49] at h2
    rw [← (Prod.mk.inj h2).2]
    exact s
  have zn : ¬ gi σ 0 3 = 0 := fun e => z (congrArg Int32.toInt e)
  obtain ⟨s1, s2, s3, s4⟩ := s
  obtain ⟨t1, t2, t3, t4⟩ := TLD_und zn h1
  have y1 := (y0 z).1.1
  have fi : ∀ id k, ¬ (1 ≤ id ∧ id ≤ 14) → gi σ1 id k = gi σ id k := fun id k h9 => f.1 id k (by intro z; (try dsimp only at z); omega) (by intro z; (try dsimp only at z); omega)
  have hz : ¬ gi σ1 74 49 = 0 := fun e => by
    rw [fi 74 49 (by omega)] at e
    have e2 : (gi σ 74 49).toInt = 0 := congrArg Int32.toInt e
    omega
  obtain ⟨k1, -, k3, -, mo⟩ := N_mundo h2 hz
  have gx : ∀ id k, ¬ (74 ≤ id ∧ id ≤ 148) → gi σ2 id k = gi σ1 id k := fun id k h9 => mo id k (by omega)
  have g0 : ∀ id k, ¬ (74 ≤ id ∧ id ≤ 148) → ¬ (1 ≤ id ∧ id ≤ 14) → gi σ2 id k = gi σ id k := fun id k a c => by rw [gx id k a, fi id k c]
  refine ⟨?_, SNr_eq (by rw [g0 17 1 (by omega) (by omega)]; exact Int.le_refl _) (g0 _ _ (by omega) (by omega)) (fun k => g0 _ k (by omega) (by omega)) (fun a k x y => g0 a k (by omega) (by omega)) s2, ?_, PNr_eq (g0 _ _ (by omega) (by omega)) (fun k => g0 _ k (by omega) (by omega)) (fun k => g0 _ k (by omega) (by omega)) s4⟩
  · refine SNr_cp b9 (by rw [gx 1 1 (by omega), y1]; exact Int.le_refl _) (by rw [gx _ _ (by omega)]; exact t1) (fun k hk => by rw [gx _ _ (by omega)]; exact t2 k hk) (fun k hk => ?_) s2
    obtain ⟨-, -, -, -, -, -, -, m142, m143, m144⟩ := k1 k hk
    refine ⟨by rw [m142, fi 164 k (by omega)], ?_, ?_⟩
    · exact m143.trans (fi 165 k (by omega))
    · exact m144.trans (fi 166 k (by omega))
  · exact PNr_cp b11 (by rw [gx _ _ (by omega)]; exact t3) (fun k hk => by rw [gx _ _ (by omega)]; exact t4 k hk) (fun k hk => by rw [k3 k hk, fi 167 k (by omega)]) s4
