/-! what the model answers: stop, alone, who, odds, mean; looked leaves all -/
theorem Ru_and {x : Sg} {P Q : Sg → Prop} (h : Ru x P) (g : Ru x Q) : Ru x (fun s => P s ∧ Q s) := ⟨h, g⟩
theorem or0 (x : Int32) : x ||| (0 : Int32) = x := Int32.or_zero
theorem put140 {σ : Sg} : Ru (F_X12_putBack σ) (fun σ' => ∀ k, gi σ' 140 k = gi σ 140 k) := by
  unfold F_X12_putBack
  refine Ru_fl (fun σ1 e1 => ?_)
  refine Ru_w (putLM 6 0 9 σ1 (0 : Int32) rfl (by decide) rfl) (fun σ' h k => ?_)
  have := h.1.1 140 k (fun z => z) (fun z => by (try dsimp only at z); omega)
  rw [this, e1, gi_si_ne (Or.inl (by decide))]
theorem sav140 {σ : Sg} : Ru (F_X12_save σ) (fun σ' => ∀ k, gi σ' 140 k = gi σ 140 k) := by
  unfold F_X12_save
  refine Ru_fl (fun σ1 e1 => ?_)
  refine Ru_w (savLM 6 0 9 σ1 (0 : Int32) rfl (by decide) rfl) (fun σ' h k => ?_)
  have := h.1.1 140 k (fun z => by (try dsimp only at z); omega) (fun z => z)
  rw [this, e1, gi_si_ne (Or.inl (by decide))]
/-! stop -/
noncomputable def aHit (m : Nat) (f g : Nat → Int) : Nat → Nat → Int32 → Int32
  | 0, _, x => x
  | j + 1, k, x => aHit m f g j (k + 1) (if k ≠ m ∧ g k < f k then x ||| ((1 : Int32) <<< (nI k &&& 31)) else x)
theorem hitLM {n m j : Nat} {S : Stc} {D : Dyn} {f : Nat → Int} {σ0 σ : Sg} {x1 x4 x5 : Int32} {K : Int} (n6 : n ≤ 6) (hn : (gi σ 74 0).toInt = (n : Int)) (db : DBd n K D) (hd : MDy n D σ) (hk : KP σ0 σ) (hf : ∀ k, k < n → (gi σ 140 k).toInt = f k) (h1 : x1.toInt = (m : Int)) (hm : m < n) : ∀ (i k N : Nat) (x6 x7 : Int32), i + k = n → i < N → x7.toInt = (k : Int) →
    Rt (LF_X12_stop N 1 x1 0 0 x4 x5 x6 x7 σ) (fun r σ' => (∃ q : Int32, q.toInt = tot n D ∧ r = if x4.toInt = 0 then x5 - q else aHit m f (D_at D) i k x6) ∧ FXz σ0 σ') := by
  intro i
  induction i with
  | zero =>
    intro k N x6 x7 hi hN h7
    obtain ⟨N, rfl⟩ : ∃ i, N = i + 1 := ⟨N - 1, by omega⟩
    show Rt (LB_X12_stop_123 (LF_X12_stop N) x1 x4 x5 x6 x7 σ) _
    unfold LB_X12_stop_123
    refine Rt_t (i_le (by omega)) ?_
    obtain ⟨q, e, v⟩ := allM n6 hn db hd
    refine Rt_fe e ?_
    refine Rt_fs (putM hk) (fun σ4 z => ?_)
    by_cases c : x4.toInt = 0
    · exact Rt_t (i_eq c) (Rt_p ⟨⟨q, v, by rw [if_pos c]⟩, z⟩)
    · exact Rt_f (i_ne c) (Rt_p ⟨⟨q, v, by rw [if_neg c]; rfl⟩, z⟩)
  | succ i ih =>
    intro k N x6 x7 hi hN h7
    obtain ⟨N, rfl⟩ : ∃ i, N = i + 1 := ⟨N - 1, by omega⟩
    have ex := cl_eq (x := x7) (by omega)
    have ep : x7.toNatClampNeg = k := by omega
    have e7 : x7 = nI k := by rw [← ep]; exact nI_ofI (by omega)
    have fk := hf k (by omega)
    have gk := hd.2.1 k (by omega)
    show Rt (LB_X12_stop_123 (LF_X12_stop N) x1 x4 x5 x6 x7 σ) (fun r σ' => (∃ q : Int32, q.toInt = tot n D ∧ r = if x4.toInt = 0 then x5 - q else aHit m f (D_at D) i (k + 1) (if k ≠ m ∧ D_at D k < f k then x6 ||| ((1 : Int32) <<< (nI k &&& 31)) else x6)) ∧ FXz σ0 σ')
    unfold LB_X12_stop_123
    refine Rt_f (i_nle (by omega)) ?_
    have v8 : ∀ v : Int32, v = x7 + 1 → v.toInt = ((k + 1 : Nat) : Int) := fun v e => by rw [e, i_inc (by omega)]; omega
    by_cases c : k = m
    · refine Rt_t (i_eq (by omega)) ?_
      rw [if_neg (show ¬ (k ≠ m ∧ D_at D k < f k) from fun z => z.1 c)]
      refine Rt_fl (fun v7 e => ?_)
      refine Rt_fl (fun v8' e8 => ?_)
      rw [e, or0]
      exact ih (k + 1) N x6 v8' (by omega) (by omega) (v8 _ e8)
    · refine Rt_f (i_ne (by omega)) ?_
      rw [ep]
      by_cases d : D_at D k < f k
      · rw [if_pos (show k ≠ m ∧ D_at D k < f k from ⟨c, d⟩)]
        refine Rt_f (i_nle (by omega)) ?_
        refine Rt_fl (fun v7 e => ?_)
        refine Rt_fl (fun v8' e8 => ?_)
        rw [← e7, ← e]
        exact ih (k + 1) N v7 v8' (by omega) (by omega) (v8 _ e8)
      · rw [if_neg (show ¬ (k ≠ m ∧ D_at D k < f k) from fun z => d z.2)]
        refine Rt_t (i_le (by omega)) ?_
        refine Rt_fl (fun v7 e => ?_)
        refine Rt_fl (fun v8' e8 => ?_)
        rw [e, or0]
        exact ih (k + 1) N x6 v8' (by omega) (by omega) (v8 _ e8)
theorem stp0M {n m r j : Nat} {K : Int} {S : Stc} {D : Dyn} {σ0 : Sg} {x1 x2 x3 x4 : Int32} (h : HMo n K S D σ0) (h1 : x1.toInt = (m : Int)) (hm : m < n) (h2 : x2.toInt = (r : Int)) (hr : r ≤ 20) (h3 : x3.toInt = (j : Int)) (hj : j ≤ 60) : ∀ (i k N : Nat) (x5 : Int32) (σ : Sg), i + k = 6 → i + 10 < N → x5.toInt = (k : Int) → KP σ0 σ → MS n S σ → MDy n (aMins S j D) σ → (∀ p, p < k → gi σ 140 p = gi σ 105 p) →
    Rt (LF_X12_stop N 0 x1 x2 x3 x4 x5 0 0 σ) (fun q σ' => (∃ u v : Int32, u.toInt = tot n (aMins S j D) ∧ v.toInt = tot n (aMins S j (aStp m r D)) ∧ q = if x4.toInt = 0 then u - v else aHit m (D_at (aMins S j D)) (D_at (aMins S j (aStp m r D))) n 0 0) ∧ FXz σ0 σ') := by
  obtain ⟨sb, db, hK, hrr, h99, hs0, hd0⟩ := id h
  have n6 := sb.1
  have db2 := aMins_b sb j D K db
  intro i
  induction i with
  | zero =>
    intro k N x5 σ hi hN h5 hk hs hd hq
    obtain ⟨N, rfl⟩ : ∃ i, N = i + 1 := ⟨N - 1, by omega⟩
    have ex := cl_eq (x := x1) (by omega)
    have ep : x1.toNatClampNeg = m := by omega
    show Rt (LB_X12_stop_61 (LF_X12_stop N) x1 x2 x3 x4 x5 σ) _
    unfold LB_X12_stop_61
    refine Rt_t (i_le (show (6 : Int) ≤ _ by omega)) ?_
    obtain ⟨u, e, hu⟩ := allM n6 hs.1 db2 hd
    refine Rt_fe e ?_
    rw [ep]
    refine Rt_fs (Ru_and (putM hk) put140) (fun σ4 ⟨z4, g4⟩ => ?_)
    have s4 := MS_z z4 hs0
    have d4 := MDy_z z4 hd0
    refine Rt_fs (Ru_and (savM n6 s4 d4) sav140) (fun σ5 ⟨⟨k5, s5, d5, _, _⟩, g5⟩ => ?_)
    refine Rt_fl (fun σ8 e8 => ?_)
    have k8 : KP σ4 σ8 := by rw [e8]; exact KP_si (by omega) k5
    have s8 : MS n S σ8 := by rw [e8]; exact MS_eq (fun id j h9 => gi_si_ne (Or.inl (by omega))) s5
    have d8 : MDy n (aStp m r D) σ8 := by rw [e8]; exact stpM db hm h2 (by omega) d5
    have db8 := aStp_b (r := (r : Int)) db (h99 m hm) hm (by omega)
    refine Rt_fs (gosM9 sb h3 hj (by omega) db8 s8.2 d8) (fun σ9 ⟨d9, f9, _⟩ => ?_)
    have s9 := MS_q f9 s8
    refine Rt_w (hitLM (j := 0) (S := S) n6 s9.1 (aMins_b sb j _ K db8) d9 (KP_q n6 k8 f9) (f := D_at (aMins S j D)) (fun p hp => ?_) h1 hm n 0 N (0 : Int32) (0 : Int32) (by omega) (by omega) rfl) (fun q σ' hq' => ⟨?_, FXz_tr z4 hq'.2⟩)
    · rw [FXq_i f9 (by omega), e8, gi_si_ne (Or.inl (by decide)), g5, g4, hq p (by omega)]
      exact hd.2.1 p hp
    · obtain ⟨⟨v, hv, e9⟩, -⟩ := hq'
      exact ⟨u, v, hu, hv, e9⟩
  | succ i ih =>
    intro k N x5 σ hi hN h5 hk hs hd hq
    obtain ⟨N, rfl⟩ : ∃ i, N = i + 1 := ⟨N - 1, by omega⟩
    have ex := cl_eq (x := x5) (by omega)
    show Rt (LB_X12_stop_61 (LF_X12_stop N) x1 x2 x3 x4 x5 σ) _
    unfold LB_X12_stop_61
    refine Rt_f (i_nle (show _ < (6 : Int) by omega)) ?_
    rw [show x5.toNatClampNeg = k from by omega]
    refine Rt_fl (fun σ9 e9 => ?_)
    refine Rt_fl (fun v9 e8 => ?_)
    refine ih (k + 1) N v9 σ9 (by omega) (by omega) (by rw [e8, i_inc (by omega)]; omega) (by rw [e9]; exact KP_si (by omega) hk) (by rw [e9]; exact MS_si (by omega) hs) (by rw [e9]; exact MDy_eq (fun id j h9 => gi_si_ne (Or.inl (by omega))) hd) (fun p hp => ?_)
    rw [e9, gi_si_ne (show 105 ≠ 140 ∨ _ from Or.inl (by decide))]
    by_cases e : p = k
    · subst e; rw [gi_si_eq]
    · rw [gi_si_ne (Or.inr e)]; exact hq p (by omega)
theorem F_mIs {a1 : Int32} {σ : Sg} {n : Nat} (hn : (gi σ 74 0).toInt = (n : Int)) (n6 : n ≤ 6) : F_X12_isMower a1 σ = (if 0 ≤ a1.toInt ∧ a1.toInt < (n : Int) then (1 : Int32) else 0, σ) := by
  have e : (gi σ 74 0 - (1 : Int32)).toInt = (n : Int) - 1 := by rw [i_sub (y := (1 : Int32)) (by show (_ : Int) ≤ _ - 1; omega) (by show _ - 1 ≤ (_ : Int); omega), hn]; rfl
  unfold F_X12_isMower
  rw [F_in, fb_e, e]
  by_cases c : 0 ≤ a1.toInt ∧ a1.toInt < (n : Int)
  · rw [if_pos c, if_pos (show (0 : Int32).toInt ≤ a1.toInt ∧ a1.toInt ≤ (n : Int) - 1 from ⟨c.1, by omega⟩)]
  · rw [if_neg c, if_neg (fun z => c ⟨z.1, by have := z.2; omega⟩)]
/-- what stop answers -/
theorem stopM {n : Nat} {K : Int} {S : Stc} {D : Dyn} {σ : Sg} {a1 a2 a3 a4 : Int32} (h : HMo n K S D σ) : Rt (F_X12_stop a1 a2 a3 a4 σ) (fun q σ' =>
    ((∃ m r j : Nat, a1.toInt = (m : Int) ∧ m < n ∧ a2.toInt = (r : Int) ∧ (1 ≤ r ∧ r ≤ 20) ∧ a3.toInt = (j : Int) ∧ (1 ≤ j ∧ j ≤ 60) ∧ (0 ≤ a4.toInt ∧ a4.toInt ≤ 1) ∧ ∃ u v : Int32, u.toInt = tot n (aMins S j D) ∧ v.toInt = tot n (aMins S j (aStp m r D)) ∧ q = if a4.toInt = 0 then u - v else aHit m (D_at (aMins S j D)) (D_at (aMins S j (aStp m r D))) n 0 0)
      ∨ (((0 ≤ a1.toInt ∧ a1.toInt < (n : Int)) ∧ (0 ≤ a4.toInt ∧ a4.toInt ≤ 1)) ∧ ¬ ((1 ≤ a2.toInt ∧ a2.toInt ≤ 20) ∧ (1 ≤ a3.toInt ∧ a3.toInt ≤ 60)) ∧ q = (-100002 : Int32))
      ∨ (¬ ((0 ≤ a1.toInt ∧ a1.toInt < (n : Int)) ∧ (0 ≤ a4.toInt ∧ a4.toInt ≤ 1)) ∧ q = (-100001 : Int32))) ∧ FXz σ σ') := by
  obtain ⟨sb, db, hK, hrr, h99, hs, hd⟩ := id h
  have n6 := sb.1
  unfold F_X12_stop
  rw [F_mIs hs.1 n6, fb_e]
  by_cases c1 : 0 ≤ a1.toInt ∧ a1.toInt < (n : Int)
  · rw [if_pos c1]
    refine Rt_f (by decide) ?_
    refine Rt_fe F_in ?_
    by_cases c4 : 0 ≤ a4.toInt ∧ a4.toInt ≤ 1
    · rw [if_pos (show (0 : Int32).toInt ≤ a4.toInt ∧ a4.toInt ≤ (1 : Int32).toInt from c4)]
      refine Rt_f (by decide) ?_
      refine Rt_fe F_in ?_
      by_cases c2 : 1 ≤ a2.toInt ∧ a2.toInt ≤ 20
      · rw [if_pos (show (1 : Int32).toInt ≤ a2.toInt ∧ a2.toInt ≤ (20 : Int32).toInt from c2)]
        refine Rt_f (by decide) ?_
        refine Rt_fe F_in ?_
        by_cases c3 : 1 ≤ a3.toInt ∧ a3.toInt ≤ 60
        · rw [if_pos (show (1 : Int32).toInt ≤ a3.toInt ∧ a3.toInt ≤ (60 : Int32).toInt from c3)]
          refine Rt_f (by decide) ?_
          obtain ⟨j, hj⟩ : ∃ j : Nat, a3.toInt = (j : Int) := ⟨a3.toInt.toNat, by omega⟩
          obtain ⟨r, hr⟩ : ∃ r : Nat, a2.toInt = (r : Int) := ⟨a2.toInt.toNat, by omega⟩
          obtain ⟨m, hm⟩ : ∃ m : Nat, a1.toInt = (m : Int) := ⟨a1.toInt.toNat, by omega⟩
          refine Rt_fs (savM n6 hs hd) (fun σ1 ⟨k1, s1, d1, _, _⟩ => ?_)
          refine Rt_fs (gosM9 sb hj (by omega) (by omega) db s1.2 d1) (fun σ2 ⟨d2, f2, _⟩ => ?_)
          exact Rt_w (stp0M h hm (by omega) hr (by omega) hj (by omega) 6 0 60 (0 : Int32) σ2 rfl (by decide) rfl (KP_q n6 k1 f2) (MS_q f2 s1) d2 (fun p hp => absurd hp (Nat.not_lt_zero p))) (fun q σ' z => ⟨Or.inl ⟨m, r, j, hm, by omega, hr, by omega, hj, by omega, c4, z.1⟩, z.2⟩)
        · rw [if_neg (show ¬ ((1 : Int32).toInt ≤ a3.toInt ∧ a3.toInt ≤ (60 : Int32).toInt) from c3)]
          exact Rt_t rfl (Rt_p ⟨Or.inr (Or.inl ⟨⟨c1, c4⟩, fun z => c3 z.2, rfl⟩), FXz_rf⟩)
      · rw [if_neg (show ¬ ((1 : Int32).toInt ≤ a2.toInt ∧ a2.toInt ≤ (20 : Int32).toInt) from c2)]
        exact Rt_t rfl (Rt_p ⟨Or.inr (Or.inl ⟨⟨c1, c4⟩, fun z => c2 z.1, rfl⟩), FXz_rf⟩)
    · rw [if_neg (show ¬ ((0 : Int32).toInt ≤ a4.toInt ∧ a4.toInt ≤ (1 : Int32).toInt) from c4)]
      exact Rt_t rfl (Rt_p ⟨Or.inr (Or.inr ⟨fun z => c4 z.2, rfl⟩), FXz_rf⟩)
  · rw [if_neg c1]
    exact Rt_t rfl (Rt_p ⟨Or.inr (Or.inr ⟨fun z => c1 z.1, rfl⟩), FXz_rf⟩)
