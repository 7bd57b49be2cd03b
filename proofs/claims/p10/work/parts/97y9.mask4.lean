/-! what the model answers: alone, who, odds, mean; looked leaves all -/
noncomputable def sAl (m : Nat) (S : Stc) : Stc := (1, (fun p => if p = 0 then m else S_ln S p), S.2.2)
theorem SBd_al {n m : Nat} {S : Stc} (h : SBd n S) (hm : m < n) : SBd n (sAl m S) := ⟨h.1, by show 1 ≤ n; omega, fun p hp => by
  have hp : p < 1 := hp
  show (if p = 0 then m else S_ln S p) < n
  rw [if_pos (by omega)]; exact hm, h.2.2.2⟩
noncomputable def KPl (σ0 σ : Sg) : Prop := (∀ id k, ¬ Pw id k → ¬ (id = 110 ∧ k < 6) → ¬ (id = 74 ∧ k = 2) → gi σ id k = gi σ0 id k) ∧ gi σ 74 33 = gi σ0 74 1 ∧ ∀ a, a < 4 → ∀ k, k < 6 → gi σ (134 + a) k = gi σ0 (105 + a) k
theorem KPl_q {n : Nat} {σ0 σ σ1 : Sg} (n6 : n ≤ 6) (k : KPl σ0 σ) (f : FXq n σ σ1) : KPl σ0 σ1 := by
  obtain ⟨k1, k2, k3⟩ := k
  exact ⟨fun id k a b c => (FXq_w n6 f id k a).trans (k1 id k a b c), by rw [FXq_i f (by omega)]; exact k2, fun a ha k hk => by rw [FXq_i f (by omega)]; exact k3 a ha k hk⟩
theorem KPl_si {σ0 σ : Sg} {a k : Nat} {v : Int32} (h : (a = 110 ∧ k < 6) ∨ (a = 74 ∧ k = 2)) (q : KPl σ0 σ) : KPl σ0 (si σ a k v) := by
  obtain ⟨k1, k2, k3⟩ := q
  exact ⟨fun id j a b c => by rw [gi_si_ne (by omega)]; exact k1 id j a b c, by rw [gi_si_ne (by omega)]; exact k2, fun b hb k hk => by rw [gi_si_ne (by omega)]; exact k3 b hb k hk⟩
theorem alBM {n : Nat} {S : Stc} {σ0 : Sg} {x3 : Int32} (hs0 : MS n S σ0) (hr : S_r S = n) : ∀ (i k N : Nat) (x4 : Int32) (σ : Sg), i + k = 6 → i < N → x4.toInt = (k : Int) → KPl σ0 σ → (∀ p, p < 6 → gi σ 138 p = gi σ0 110 p) → (∀ p, p < k → gi σ 110 p = gi σ0 110 p) →
    Rt (LF_X12_aloneBehind N 1 0 0 x3 x4 σ) (fun r σ' => r = x3 ∧ FXz σ0 σ') := by
  intro i
  induction i with
  | zero =>
    intro k N x4 σ hi hN h4 hk h8 hq
    obtain ⟨N, rfl⟩ : ∃ i, N = i + 1 := ⟨N - 1, by omega⟩
    show Rt (LB_X12_aloneBehind_57 (LF_X12_aloneBehind N) x3 x4 σ) _
    unfold LB_X12_aloneBehind_57
    refine Rt_t (i_le (show (6 : Int) ≤ _ by omega)) ?_
    refine Rt_fl (fun σ2 e2 => ?_)
    have e0 : gi σ 74 0 = gi σ0 74 2 := by
      rw [hk.1 74 0 (by unfold Pw Pz; omega) (by omega) (by omega)]
      exact i_eq (by rw [hs0.1, hs0.2.1, hr])
    have k2 : KP σ0 σ2 := by
      refine ⟨fun id j a => ?_, by rw [e2, gi_si_ne (Or.inr (by decide))]; exact hk.2.1, fun a ha j hj => by rw [e2, gi_si_ne (Or.inl (by omega))]; exact hk.2.2 a ha j hj⟩
      by_cases c : id = 74 ∧ j = 2
      · obtain ⟨rfl, rfl⟩ := c
        rw [e2, gi_si_eq]; exact e0
      · rw [e2, gi_si_ne (by omega)]
        by_cases d : id = 110 ∧ j < 6
        · obtain ⟨rfl, hj⟩ := d
          exact hq j (by omega)
        · exact hk.1 id j a d c
    exact Rt_fs (putM k2) (fun σ3 z => Rt_p ⟨rfl, z⟩)
  | succ i ih =>
    intro k N x4 σ hi hN h4 hk h8 hq
    obtain ⟨N, rfl⟩ : ∃ i, N = i + 1 := ⟨N - 1, by omega⟩
    have ex := cl_eq (x := x4) (by omega)
    show Rt (LB_X12_aloneBehind_57 (LF_X12_aloneBehind N) x3 x4 σ) _
    unfold LB_X12_aloneBehind_57
    refine Rt_f (i_nle (show _ < (6 : Int) by omega)) ?_
    rw [show x4.toNatClampNeg = k from by omega]
    refine Rt_fl (fun σ6 e6 => ?_)
    refine Rt_fl (fun v7 e7 => ?_)
    refine ih (k + 1) N v7 σ6 (by omega) (by omega) (by rw [e7, i_inc (by omega)]; omega) (by rw [e6]; exact KPl_si (by omega) hk) (fun p hp => by rw [e6, gi_si_ne (Or.inl (by decide))]; exact h8 p hp) (fun p hp => ?_)
    rw [e6]
    by_cases e : p = k
    · subst e; rw [gi_si_eq]; exact h8 p (by omega)
    · rw [gi_si_ne (Or.inr e)]; exact hq p (by omega)
theorem alAM {n m j : Nat} {K : Int} {S : Stc} {D : Dyn} {σ0 : Sg} {x1 x2 : Int32} (h : HMo n K S D σ0) (h1 : x1.toInt = (m : Int)) (hm : m < n) (h2 : x2.toInt = (j : Int)) (hj : j ≤ 60) : ∀ (i k N : Nat) (x3 : Int32) (σ : Sg), i + k = 6 → i + 10 < N → x3.toInt = (k : Int) → KP σ0 σ → MS n S σ → MDy n D σ → (∀ p, p < k → gi σ 138 p = gi σ0 110 p) →
    Rt (LF_X12_aloneBehind N 0 x1 x2 x3 0 σ) (fun r σ' => r.toInt = D_at (aMins (sAl m S) j D) m ∧ FXz σ0 σ') := by
  obtain ⟨sb, db, hK, hrr, h99, hs0, hd0⟩ := id h
  have n6 := sb.1
  intro i
  induction i with
  | zero =>
    intro k N x3 σ hi hN h3 hk hs hd hq
    obtain ⟨N, rfl⟩ : ∃ i, N = i + 1 := ⟨N - 1, by omega⟩
    have ex := cl_eq (x := x1) (by omega)
    show Rt (LB_X12_aloneBehind_6 (LF_X12_aloneBehind N) x1 x2 x3 σ) _
    unfold LB_X12_aloneBehind_6
    refine Rt_t (i_le (show (6 : Int) ≤ _ by omega)) ?_
    rw [show (0 : Int32).toNatClampNeg = 0 from rfl, show x1.toNatClampNeg = m from by omega]
    refine Rt_fl (fun σ3 e3 => ?_)
    refine Rt_fl (fun σ4 e4 => ?_)
    have kl : KPl σ0 σ := ⟨fun id k a _ _ => hk.1 id k a, hk.2.1, hk.2.2⟩
    have k4 : KPl σ0 σ4 := by rw [e4, e3]; exact KPl_si (by omega) (KPl_si (by omega) kl)
    have g4 : ∀ id k, ¬ (id = 110 ∧ k = 0) → ¬ (id = 74 ∧ k = 2) → gi σ4 id k = gi σ id k := fun id k a b => by rw [e4, gi_si_ne (by omega), e3, gi_si_ne (by omega)]
    have s4 : MT n (sAl m S) σ4 := by
      obtain ⟨q2, q3, q4, q5, q6, q7, q8, q9⟩ := hs.2
      refine ⟨by rw [e4, gi_si_eq]; rfl, fun p hp => ?_, fun m hm => by rw [g4 103 m (by omega) (by omega)]; exact q4 m hm, fun m hm => by rw [g4 104 m (by omega) (by omega)]; exact q5 m hm, fun k hk => by rw [g4 109 k (by omega) (by omega)]; exact q6 k hk, MH_eq (g4 74 12 (by omega) (by omega)) (fun id k a b => g4 id k (by omega) (by omega)) q7, q8, by rw [g4 74 28 (by omega) (by omega)]; exact q9⟩
      have hp : p < 1 := hp
      obtain rfl : p = 0 := by omega
      rw [e4, gi_si_ne (Or.inl (by decide)), e3, gi_si_eq]
      exact h1
    have d4 : MDy n D σ4 := MDy_eq (fun id k a => g4 id k (by omega) (by omega)) hd
    refine Rt_fs (gosM9 (SBd_al sb hm) h2 hj (by omega) db s4 d4) (fun σ5 ⟨d5, f5, _⟩ => ?_)
    refine Rt_fl (fun v7 e7 => ?_)
    refine Rt_w (alBM (σ0 := σ0) (x3 := v7) hs0 hrr 6 0 N (0 : Int32) σ5 rfl (by omega) rfl (KPl_q n6 k4 f5) (fun p hp => by rw [FXq_i f5 (by omega), g4 138 p (by omega) (by omega)]; exact hq p (by omega)) (fun p hp => absurd hp (Nat.not_lt_zero p))) (fun r σ' q => ⟨?_, q.2⟩)
    rw [q.1, e7]; exact d5.2.1 m hm
  | succ i ih =>
    intro k N x3 σ hi hN h3 hk hs hd hq
    obtain ⟨N, rfl⟩ : ∃ i, N = i + 1 := ⟨N - 1, by omega⟩
    have ex := cl_eq (x := x3) (by omega)
    show Rt (LB_X12_aloneBehind_6 (LF_X12_aloneBehind N) x1 x2 x3 σ) _
    unfold LB_X12_aloneBehind_6
    refine Rt_f (i_nle (show _ < (6 : Int) by omega)) ?_
    rw [show x3.toNatClampNeg = k from by omega]
    refine Rt_fl (fun σ9 e9 => ?_)
    refine Rt_fl (fun v9 e8 => ?_)
    refine ih (k + 1) N v9 σ9 (by omega) (by omega) (by rw [e8, i_inc (by omega)]; omega) (by rw [e9]; exact KP_si (by omega) hk) (by rw [e9]; exact MS_si (by omega) hs) (by rw [e9]; exact MDy_eq (fun id j h9 => gi_si_ne (Or.inl (by omega))) hd) (fun p hp => ?_)
    rw [e9]
    by_cases e : p = k
    · subst e; rw [gi_si_eq]; exact hk.1 110 p (by unfold Pw Pz; omega)
    · rw [gi_si_ne (Or.inr e)]; exact hq p (by omega)
theorem albM {n m j : Nat} {K : Int} {S : Stc} {D : Dyn} {σ : Sg} {x1 x2 : Int32} (h : HMo n K S D σ) (h1 : x1.toInt = (m : Int)) (hm : m < n) (h2 : x2.toInt = (j : Int)) (hj : j ≤ 60) : Rt (F_X12_aloneBehind x1 x2 σ) (fun r σ' => r.toInt = D_at (aMins (sAl m S) j D) m ∧ FXz σ σ') := by
  obtain ⟨sb, db, hK, hrr, h99, hs, hd⟩ := id h
  unfold F_X12_aloneBehind
  exact Rt_fs (savM sb.1 hs hd) (fun σ1 ⟨k1, s1, d1, _, _⟩ => alAM h h1 hm h2 hj 6 0 60 (0 : Int32) σ1 rfl (by decide) rfl k1 s1 d1 (fun p hp => absurd hp (Nat.not_lt_zero p)))
noncomputable def aAln (f : Nat → Int) : Nat → Nat → Int → Int
  | 0, _, x => x
  | j + 1, k, x => aAln f j (k + 1) (x - f k)
theorem alnLM {n j : Nat} {K : Int} {S : Stc} {D : Dyn} {x1 : Int32} (h1 : x1.toInt = (j : Int)) (hj : j ≤ 60) : ∀ (i k N : Nat) (x2 x3 : Int32) (b : Int) (σ : Sg), i + k = n → i < N → x2.toInt = b → -9999 * (k : Int) ≤ b ∧ b ≤ 60000 → x3.toInt = (k : Int) → HMo n K S D σ →
    Rt (LF_X12_alone N x1 x2 x3 σ) (fun r σ' => r.toInt = aAln (fun m => D_at (aMins (sAl m S) j D) m) i k b ∧ FXz σ σ') := by
  intro i
  induction i with
  | zero =>
    intro k N x2 x3 b σ hi hN h2 hb h3 h
    have hn := h.2.2.2.2.2.1.1
    obtain ⟨N, rfl⟩ : ∃ i, N = i + 1 := ⟨N - 1, by omega⟩
    show Rt (LB_X12_alone_23 (LF_X12_alone N) x1 x2 x3 σ) _
    unfold LB_X12_alone_23
    exact Rt_t (i_le (by omega)) (Rt_p ⟨h2, FXz_rf⟩)
  | succ i ih =>
    intro k N x2 x3 b σ hi hN h2 hb h3 h
    have hn := h.2.2.2.2.2.1.1
    have n6 := h.1.1
    obtain ⟨N, rfl⟩ : ∃ i, N = i + 1 := ⟨N - 1, by omega⟩
    have vb := ((DBd_i.mp (aMins_b (SBd_al (m := k) h.1 (by omega)) j D K h.2.1)).2.1) k (by omega)
    show Rt (LB_X12_alone_23 (LF_X12_alone N) x1 x2 x3 σ) (fun r σ' => r.toInt = aAln (fun m => D_at (aMins (sAl m S) j D) m) i (k + 1) (b - D_at (aMins (sAl k S) j D) k) ∧ FXz σ σ')
    unfold LB_X12_alone_23
    refine Rt_f (i_nle (by omega)) ?_
    refine Rt_fb (albM h h3 (by omega) h1 hj) (fun r3 σ2 ⟨v, z⟩ => ?_)
    refine Rt_fl (fun v4 e4 => ?_)
    refine Rt_fl (fun v5 e5 => ?_)
    exact Rt_w (ih (k + 1) N v4 v5 _ σ2 (by omega) (by omega) (by rw [e4, i_sub (by omega) (by omega), h2, v]) (by omega) (by rw [e5, i_inc (by omega)]; omega) (HMo_z z h)) (fun r σ' q => ⟨q.1, FXz_tr z q.2⟩)
noncomputable def r_alone (n : Nat) (S : Stc) (D : Dyn) (a1 : Int) : Int :=
  if 1 ≤ a1 ∧ a1 ≤ 60 then aAln (fun m => D_at (aMins (sAl m S) a1.toNat D) m) n 0 (tot n (aMins S a1.toNat D)) else -100002
theorem aloneM {n : Nat} {K : Int} {S : Stc} {D : Dyn} {σ : Sg} {a1 : Int32} (h : HMo n K S D σ) : Rt (F_X12_alone a1 σ) (fun r σ' => r.toInt = r_alone n S D a1.toInt ∧ FXz σ σ') := by
  have n6 := h.1.1
  unfold F_X12_alone r_alone
  refine Rt_fe F_in ?_
  by_cases d : 1 ≤ a1.toInt ∧ a1.toInt ≤ 60
  · rw [if_pos (show (1 : Int32).toInt ≤ a1.toInt ∧ a1.toInt ≤ (60 : Int32).toInt from d), if_pos d]
    refine Rt_f (by decide) ?_
    obtain ⟨j, hj⟩ : ∃ j : Nat, a1.toInt = (j : Int) := ⟨a1.toInt.toNat, by omega⟩
    rw [hj, show ((j : Int)).toNat = j from by omega]
    refine Rt_fb (absM h.1 h.2.1 (by have := h.2.2.1; omega) h.2.2.2.2.2.1 h.2.2.2.2.2.2 hj (by omega)) (fun r5 σ4 ⟨v, z⟩ => ?_)
    have tb := tot_b n6 (aMins_b h.1 j D K h.2.1)
    exact Rt_w (alnLM hj (by omega) n 0 20 r5 (0 : Int32) _ σ4 (by omega) (by omega) v (by omega) rfl (HMo_z z h)) (fun r σ' q => ⟨q.1, FXz_tr z q.2⟩)
  · rw [if_neg (show ¬ ((1 : Int32).toInt ≤ a1.toInt ∧ a1.toInt ≤ (60 : Int32).toInt) from d), if_neg d]
    exact Rt_t rfl (Rt_p ⟨rfl, FXz_rf⟩)
/-! looked leaves all -/
theorem lokLM {x1 : Int32} {σ : Sg} : ∀ (N : Nat) (x2 : Int32), Rt (LF_X12_looked N x1 x2 σ) (fun _ σ' => σ' = σ) := by
  intro N
  induction N with
  | zero => intro x2; exact rfl
  | succ N ih =>
    intro x2
    show Rt (LB_X12_looked_15 (LF_X12_looked N) x1 x2 σ) _
    unfold LB_X12_looked_15
    by_cases c : gi σ 74 46 ≤ x2
    · exact Rt_t c (Rt_p rfl)
    refine Rt_f c ?_
    unfold F_X12_has
    by_cases d : ((x1 >>> ((gi σ 148 x2.toNatClampNeg) &&& 31)) &&& (1 : Int32)) = (1 : Int32)
    · rw [if_pos d, fb_e]
      exact Rt_f (by decide) (Rt_fl (fun v6 _ => ih v6))
    · rw [if_neg d, fb_e]
      exact Rt_t rfl (Rt_p rfl)
theorem lookedM {n : Nat} {K : Int} {S : Stc} {D : Dyn} {σ : Sg} (h : HMo n K S D σ) : Rt (F_X12_looked σ) (fun _ σ' => FXz σ σ') := by
  obtain ⟨sb, db, hK, hrr, h99, hs, hd⟩ := h
  unfold F_X12_looked
  refine Rt_fs (savM sb.1 hs hd) (fun σ1 ⟨k1, s1, d1, _, _⟩ => ?_)
  refine Rt_fb (minM sb db (by omega) s1.2 d1) (fun r3 σ2 ⟨_, _, f2, _⟩ => ?_)
  refine Rt_fs (putM (KP_q sb.1 k1 f2)) (fun σ4 z => ?_)
  exact Rt_w (lokLM 20 (0 : Int32)) (fun r σ' e => by rw [e]; exact z)
/-! odds, mean -/
theorem divM : ∀ (N : Nat) (p q : Nat) (x3 x4 : Int32) (σ : Sg), x3.toInt = (p : Int) → x4.toInt = (q : Int) → q < N → ∃ r, LF_X12_divisor N x3 x4 σ = (r, σ) ∧ r.toInt = (Nat.gcd p q : Int) := by
  intro N
  induction N with
  | zero => intro p q x3 x4 σ _ _ h; exact absurd h (Nat.not_lt_zero q)
  | succ N ih =>
    intro p q x3 x4 σ h3 h4 hq
    show ∃ r, LB_X12_divisor_5 (LF_X12_divisor N) x3 x4 σ = (r, σ) ∧ _
    unfold LB_X12_divisor_5
    by_cases c : q = 0
    · subst c
      rw [if_pos (i_eq (show _ = (0 : Int) by omega)), Nat.gcd_zero_right]
      exact ⟨_, rfl, h3⟩
    · have m : (x3 - x3 / x4 * x4).toInt = ((p % q : Nat) : Int) := by rw [i_rem (k := (q : Int)) (by omega) (by omega) h4, h3]; omega
      have lt := Nat.mod_lt p (show 0 < q by omega)
      rw [if_neg (i_ne (show _ ≠ (0 : Int) by omega)), fl_e, Nat.gcd_comm p q, Nat.gcd_rec q p, Nat.gcd_comm (p % q) q]
      exact ih q (p % q) x4 _ σ h4 m (by omega)
noncomputable def lwV (a b c : Int32) (g : Int32) : Int64 := if c.toInt = 0 then (a / g).toInt64 else (b / g).toInt64
theorem lowM {a b c : Int32} {p q : Nat} {σ : Sg} (ha : a.toInt = (p : Int)) (hb : b.toInt = (q : Int)) (h6 : q ≤ 6) : ∃ g : Int32, g.toInt = (Nat.gcd p q : Int) ∧ F_X12_lowest a b c σ = (lwV a b c g, σ) := by
  obtain ⟨g, e, v⟩ := divM 20 p q a b σ ha hb (by omega)
  refine ⟨g, v, ?_⟩
  unfold F_X12_lowest lwV
  rw [show F_X12_divisor a b σ = (g, σ) from e, fb_e]
  by_cases d : c.toInt = 0
  · rw [if_pos (i_eq d), if_pos d]
  · rw [if_neg (i_ne d), if_neg d]
theorem meanM {n : Nat} {K : Int} {S : Stc} {D : Dyn} {σ : Sg} {a1 a2 : Int32} (h : HMo n K S D σ) : Rt (F_X12_mean a1 a2 σ) (fun r σ' =>
    ((∃ j : Nat, a1.toInt = (j : Int) ∧ (1 ≤ j ∧ j ≤ 60) ∧ (0 ≤ a2.toInt ∧ a2.toInt ≤ 1) ∧ n ≠ 0 ∧ ∃ u g : Int32, u.toInt = tot n (aMins S j D) ∧ g.toInt = (Nat.gcd (tot n (aMins S j D)).toNat n : Int) ∧ r = lwV u (nI n) a2 g)
      ∨ (¬ ((1 ≤ a1.toInt ∧ a1.toInt ≤ 60) ∧ (0 ≤ a2.toInt ∧ a2.toInt ≤ 1) ∧ n ≠ 0) ∧ r = (-9223372036854775808 : Int64))) ∧ FXz σ σ') := by
  obtain ⟨sb, db, hK, hrr, h99, hs, hd⟩ := id h
  have n6 := sb.1
  unfold F_X12_mean
  refine Rt_fe F_in ?_
  by_cases d : 1 ≤ a1.toInt ∧ a1.toInt ≤ 60
  · rw [if_pos (show (1 : Int32).toInt ≤ a1.toInt ∧ a1.toInt ≤ (60 : Int32).toInt from d)]
    refine Rt_f (by decide) ?_
    refine Rt_fe F_in ?_
    by_cases c : 0 ≤ a2.toInt ∧ a2.toInt ≤ 1
    · rw [if_pos (show (0 : Int32).toInt ≤ a2.toInt ∧ a2.toInt ≤ (1 : Int32).toInt from c)]
      refine Rt_f (by decide) ?_
      have hn := hs.1
      by_cases e : n = 0
      · exact Rt_t (i_eq (show _ = (0 : Int) by omega)) (Rt_p ⟨Or.inr ⟨fun z => z.2.2 e, rfl⟩, FXz_rf⟩)
      · refine Rt_f (i_ne (show _ ≠ (0 : Int) by omega)) ?_
        obtain ⟨j, hj⟩ : ∃ j : Nat, a1.toInt = (j : Int) := ⟨a1.toInt.toNat, by omega⟩
        refine Rt_fb (absM sb db (by omega) hs hd hj (by omega)) (fun r9 σ8 ⟨v, z⟩ => ?_)
        have tb := tot_b n6 (aMins_b sb j D K db)
        have e0 : gi σ8 74 0 = nI n := by
          rw [FXz_i z (by omega)]
          exact i_eq (by rw [hn, nI_toInt (by omega)])
        obtain ⟨g, g1, g2⟩ := lowM (a := r9) (b := gi σ8 74 0) (c := a2) (p := (tot n (aMins S j D)).toNat) (q := n) (σ := σ8) (by rw [v]; omega) (by rw [e0, nI_toInt (by omega)]) n6
        exact Rt_fe g2 (Rt_p ⟨Or.inl ⟨j, hj, by omega, c, e, r9, g, v, g1, by rw [e0]⟩, z⟩)
    · rw [if_neg (show ¬ ((0 : Int32).toInt ≤ a2.toInt ∧ a2.toInt ≤ (1 : Int32).toInt) from c)]
      exact Rt_t rfl (Rt_p ⟨Or.inr ⟨fun z => c z.2.1, rfl⟩, FXz_rf⟩)
  · rw [if_neg (show ¬ ((1 : Int32).toInt ≤ a1.toInt ∧ a1.toInt ≤ (60 : Int32).toInt) from d)]
    exact Rt_t rfl (Rt_p ⟨Or.inr ⟨fun z => d z.1, rfl⟩, FXz_rf⟩)
noncomputable def aOd (f : Nat → Int) : Nat → Nat → Nat → Nat
  | 0, _, x => x
  | j + 1, k, x => aOd f j (k + 1) (if 0 < f k then x + 1 else x)
theorem oddLM {n m j : Nat} {K : Int} {S : Stc} {D : Dyn} {x1 x2 x3 : Int32} (h1 : x1.toInt = (m : Int)) (hm : m < n) (h2 : x2.toInt = (j : Int)) (hj : j ≤ 60) : ∀ (i k N : Nat) (x4 x5 : Int32) (b : Nat) (σ : Sg), i + k = n → i < N → x4.toInt = (b : Int) → b ≤ k → x5.toInt = (k : Int) → HMo n K S D σ →
    Rt (LF_X12_odds N x1 x2 x3 x4 x5 σ) (fun r σ' => (∃ u g : Int32, u.toInt = (aOd (fun o => aHel S j (aStp o 5 D) m) i k b : Int) ∧ g.toInt = (Nat.gcd (aOd (fun o => aHel S j (aStp o 5 D) m) i k b) n : Int) ∧ r = lwV u (nI n) x3 g) ∧ FXz σ σ') := by
  intro i
  induction i with
  | zero =>
    intro k N x4 x5 b σ hi hN h4 hb h5 h
    have hn := h.2.2.2.2.2.1.1
    have n6 := h.1.1
    obtain ⟨N, rfl⟩ : ∃ i, N = i + 1 := ⟨N - 1, by omega⟩
    show Rt (LB_X12_odds_39 (LF_X12_odds N) x1 x2 x3 x4 x5 σ) _
    unfold LB_X12_odds_39
    refine Rt_t (i_le (by omega)) ?_
    have e0 : gi σ 74 0 = nI n := i_eq (by rw [hn, nI_toInt (by omega)])
    obtain ⟨g, g1, g2⟩ := lowM (a := x4) (b := gi σ 74 0) (c := x3) (p := b) (q := n) (σ := σ) h4 (by rw [e0, nI_toInt (by omega)]) n6
    exact Rt_fe g2 (Rt_p ⟨⟨x4, g, h4, g1, by rw [e0]⟩, FXz_rf⟩)
  | succ i ih =>
    intro k N x4 x5 b σ hi hN h4 hb h5 h
    obtain ⟨sb, db, hK, hrr, h99, hs, hd⟩ := id h
    have hn := hs.1
    have n6 := sb.1
    obtain ⟨N, rfl⟩ : ∃ i, N = i + 1 := ⟨N - 1, by omega⟩
    have ex := cl_eq (x := x5) (by omega)
    have ex1 := cl_eq (x := x1) (by omega)
    show Rt (LB_X12_odds_39 (LF_X12_odds N) x1 x2 x3 x4 x5 σ) (fun r σ' => (∃ u g : Int32, u.toInt = (aOd (fun o => aHel S j (aStp o 5 D) m) i (k + 1) (if 0 < aHel S j (aStp k 5 D) m then b + 1 else b) : Int) ∧ g.toInt = (Nat.gcd (aOd (fun o => aHel S j (aStp o 5 D) m) i (k + 1) (if 0 < aHel S j (aStp k 5 D) m then b + 1 else b)) n : Int) ∧ r = lwV u (nI n) x3 g) ∧ FXz σ σ')
    unfold LB_X12_odds_39
    refine Rt_f (i_nle (by omega)) ?_
    rw [show x5.toNatClampNeg = k from by omega, show x1.toNatClampNeg = m from by omega]
    refine Rt_fs (savM n6 hs hd) (fun σ4 ⟨k4, s4, d4, t4, _⟩ => ?_)
    refine Rt_fl (fun σ7 e7 => ?_)
    have k7 : KP σ σ7 := by rw [e7]; exact KP_si (by omega) k4
    have s7 : MS n S σ7 := by rw [e7]; exact MS_si (by omega) s4
    have d7 : MDy n (aStp k 5 D) σ7 := by rw [e7]; exact stpM db (by omega) rfl (by decide) d4
    have t7 : HTb n 0 (fun _ => 0) σ7 := fun m hm => by rw [e7, gi_si_ne (Or.inl (by decide))]; exact t4 m hm
    have db7 := aStp_b (r := 5) db (h99 k (by omega)) (by omega) (by decide)
    refine Rt_fs (gosM9 sb h2 hj (by omega) db7 s7.2 d7) (fun σ8 ⟨d8, f8, t8⟩ => ?_)
    have k8 := KP_q n6 k7 f8
    have t : (gi σ8 132 m).toInt = aHel S j (aStp k 5 D) m := (t8 0 (fun _ => 0) (by omega) t7 m hm).2.trans (Int.zero_add _)
    by_cases c : 0 < aHel S j (aStp k 5 D) m
    · rw [if_pos c]
      refine Rt_f (i_nle (show (0 : Int) < _ by omega)) ?_
      refine Rt_fl (fun v14 e14 => ?_)
      refine Rt_fs (putM k8) (fun σ12 z => ?_)
      refine Rt_fl (fun v13 e13 => ?_)
      exact Rt_w (ih (k + 1) N v14 v13 (b + 1) σ12 (by omega) (by omega) (by rw [e14, i_inc (by omega)]; omega) (by omega) (by rw [e13, i_inc (by omega)]; omega) (HMo_z z h)) (fun r σ' q => ⟨q.1, FXz_tr z q.2⟩)
    · rw [if_neg c]
      refine Rt_t (i_le (show _ ≤ (0 : Int) by omega)) ?_
      refine Rt_fl (fun v14 e14 => ?_)
      refine Rt_fs (putM k8) (fun σ12 z => ?_)
      refine Rt_fl (fun v13 e13 => ?_)
      exact Rt_w (ih (k + 1) N v14 v13 b σ12 (by omega) (by omega) (by rw [e14, i_add (y := (0 : Int32)) (by show (_ : Int) ≤ _ + 0; omega) (by show _ + 0 ≤ (_ : Int); omega)]; show _ + (0 : Int) = _; omega) (by omega) (by rw [e13, i_inc (by omega)]; omega) (HMo_z z h)) (fun r σ' q => ⟨q.1, FXz_tr z q.2⟩)
theorem oddsM {n : Nat} {K : Int} {S : Stc} {D : Dyn} {σ : Sg} {a1 a2 a3 : Int32} (h : HMo n K S D σ) : Rt (F_X12_odds a1 a2 a3 σ) (fun r σ' =>
    ((∃ m j : Nat, a1.toInt = (m : Int) ∧ m < n ∧ a2.toInt = (j : Int) ∧ (1 ≤ j ∧ j ≤ 60) ∧ (0 ≤ a3.toInt ∧ a3.toInt ≤ 1) ∧ ∃ u g : Int32, u.toInt = (aOd (fun o => aHel S j (aStp o 5 D) m) n 0 0 : Int) ∧ g.toInt = (Nat.gcd (aOd (fun o => aHel S j (aStp o 5 D) m) n 0 0) n : Int) ∧ r = lwV u (nI n) a3 g)
      ∨ (¬ ((0 ≤ a1.toInt ∧ a1.toInt < (n : Int)) ∧ (1 ≤ a2.toInt ∧ a2.toInt ≤ 60) ∧ (0 ≤ a3.toInt ∧ a3.toInt ≤ 1)) ∧ r = (-9223372036854775808 : Int64))) ∧ FXz σ σ') := by
  have hs := h.2.2.2.2.2.1
  have n6 := h.1.1
  unfold F_X12_odds
  rw [F_mIs hs.1 n6, fb_e]
  by_cases c1 : 0 ≤ a1.toInt ∧ a1.toInt < (n : Int)
  · rw [if_pos c1]
    refine Rt_f (by decide) ?_
    refine Rt_fe F_in ?_
    by_cases d : 1 ≤ a2.toInt ∧ a2.toInt ≤ 60
    · rw [if_pos (show (1 : Int32).toInt ≤ a2.toInt ∧ a2.toInt ≤ (60 : Int32).toInt from d)]
      refine Rt_f (by decide) ?_
      refine Rt_fe F_in ?_
      by_cases c : 0 ≤ a3.toInt ∧ a3.toInt ≤ 1
      · rw [if_pos (show (0 : Int32).toInt ≤ a3.toInt ∧ a3.toInt ≤ (1 : Int32).toInt from c)]
        refine Rt_f (by decide) ?_
        obtain ⟨j, hj⟩ : ∃ j : Nat, a2.toInt = (j : Int) := ⟨a2.toInt.toNat, by omega⟩
        obtain ⟨m, hm⟩ : ∃ m : Nat, a1.toInt = (m : Int) := ⟨a1.toInt.toNat, by omega⟩
        exact Rt_w (oddLM hm (by omega) hj (by omega) n 0 20 (0 : Int32) (0 : Int32) 0 σ (by omega) (by omega) rfl (by omega) rfl h) (fun r σ' z => ⟨Or.inl ⟨m, j, hm, by omega, hj, by omega, c, z.1⟩, z.2⟩)
      · rw [if_neg (show ¬ ((0 : Int32).toInt ≤ a3.toInt ∧ a3.toInt ≤ (1 : Int32).toInt) from c)]
        exact Rt_t rfl (Rt_p ⟨Or.inr ⟨fun z => c z.2.2, rfl⟩, FXz_rf⟩)
    · rw [if_neg (show ¬ ((1 : Int32).toInt ≤ a2.toInt ∧ a2.toInt ≤ (60 : Int32).toInt) from d)]
      exact Rt_t rfl (Rt_p ⟨Or.inr ⟨fun z => d z.2.1, rfl⟩, FXz_rf⟩)
  · rw [if_neg c1]
    exact Rt_t rfl (Rt_p ⟨Or.inr ⟨fun z => c1 z.1, rfl⟩, FXz_rf⟩)
