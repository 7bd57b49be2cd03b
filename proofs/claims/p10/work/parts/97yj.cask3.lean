/-! what the class answers: whets, apart, rest, paused -/
noncomputable def aTs (S : Stc) (b k : Int) (i : Nat) (D : Dyn) : Dyn := if b = 0 ∧ (1 ≤ k ∧ k < 16 ∧ ((i : Int) + 1) % k = 0) then aWhe D else (aMin S D).2
noncomputable def aTp (b k : Int) (i : Nat) (D : Dyn) : Dyn := if b = 3 ∧ (i : Int) = k then aPas 5 15 D else D
noncomputable def aTb (S : Stc) (b k : Int) : Nat → Nat → Dyn → Dyn
  | 0, _, D => D
  | j + 1, i, D => aTb S b k j (i + 1) (aTs S b k i (aTp b k i D))
theorem aTs_b {n : Nat} {S : Stc} {D : Dyn} {K b k : Int} {i : Nat} (h : SBd n S) (d : DBd n K D) : DBd n (K + 1) (aTs S b k i D) := by
  unfold aTs
  split
  · exact aWhe_b d
  · exact aMin_b h d
theorem aTp_b {n : Nat} {D : Dyn} {K b k : Int} {i : Nat} (d : DBd n K D) : DBd n (K + 5) (aTp b k i D) := by
  unfold aTp
  split
  · exact aPas_b d (by decide) (by decide)
  · exact ⟨by have := d.1; omega, d.2⟩
theorem whIn {a b : Int32} {i k : Int} {σ : Sg} (ha : a.toInt = i) (hb : b.toInt = k) (hi : 0 ≤ i) : F_X11_whetsIn a b σ = (if 1 ≤ k ∧ k < 16 ∧ i % k = 0 then (1 : Int32) else 0, σ) := by
  unfold F_X11_whetsIn
  by_cases c1 : k < 1
  · rw [if_pos (i_lt (show _ < (1 : Int) by omega)), if_neg (by omega)]
  rw [if_neg (i_nlt (show (1 : Int) ≤ _ by omega))]
  by_cases c2 : 16 ≤ k
  · rw [if_pos (i_le (show (16 : Int) ≤ _ by omega)), if_neg (by omega)]
  rw [if_neg (i_nle (show _ < (16 : Int) by omega))]
  have rm : (a - a / b * b).toInt = i % k := by rw [i_rem (k := k) (by omega) (by omega) hb, ha]
  by_cases c3 : i % k = 0
  · rw [if_pos (i_eq (show _ = (0 : Int) by omega)), if_pos ⟨by omega, by omega, c3⟩]
  · rw [if_neg (i_ne (show _ ≠ (0 : Int) by omega)), if_neg (fun z => c3 z.2.2)]
theorem totLC {n : Nat} {S : Stc} {x1 x2 x3 : Int32} {b k : Int} (sb : SBd n S) (h1 : x1.toInt = b) (h3 : x3.toInt = k) (hx : x2.toInt ≤ 60) : ∀ (j i N : Nat) (x4 : Int32) (D : Dyn) (K : Int) (σ : Sg), x2.toInt = (i : Int) + (j : Int) → 2 * j + 1 ≤ N → x4.toInt = (i : Int) → K + 6 * (j : Int) ≤ 100000 → DBd n K D → CS 33 n S σ → CDy 33 n D σ →
    Rt (LF_X11_totalBy N 1 x1 x2 x3 x4 σ) (fun r σ' => r.toInt = tot n (aTb S b k j i D) ∧ FXv σ σ') := by
  have n6 := sb.1
  intro j
  induction j with
  | zero =>
    intro i N x4 D K σ h hN h4 hK db cs cd
    obtain ⟨N, rfl⟩ : ∃ i, N = i + 1 := ⟨N - 1, by omega⟩
    show Rt (LB_X11_totalBy_53 (LF_X11_totalBy N) x1 x2 x3 x4 σ) _
    unfold LB_X11_totalBy_53
    refine Rt_t (i_le (by omega)) ?_
    obtain ⟨r, e, v⟩ := allC n6 cs.1 db cd
    exact Rt_fe e (Rt_p ⟨v, FXv_rf⟩)
  | succ j ih =>
    intro i N x4 D K σ h hN h4 hK db cs cd
    obtain ⟨N, rfl⟩ : ∃ i, N = i + 2 := ⟨N - 2, by omega⟩
    show Rt (LB_X11_totalBy_53 (LF_X11_totalBy (N + 1)) x1 x2 x3 x4 σ) (fun r σ' => r.toInt = tot n (aTb S b k j (i + 1) (aTs S b k i (aTp b k i D))) ∧ FXv σ σ')
    unfold LB_X11_totalBy_53
    refine Rt_f (i_nle (by omega)) ?_
    have go : ∀ (σ5 : Sg) (D' : Dyn), D' = aTp b k i D → FXv σ σ5 → CS 33 n S σ5 → CDy 33 n D' σ5 → Rt (LF_X11_totalBy (N + 1) 2 x1 x2 x3 x4 σ5) (fun r σ' => r.toInt = tot n (aTb S b k j (i + 1) (aTs S b k i (aTp b k i D))) ∧ FXv σ σ') := by
      intro σ5 D' e f5 s5 d5
      have db5 : DBd n (K + 5) D' := by rw [e]; exact aTp_b db
      rw [← e]
      show Rt (LB_X11_totalBy_78 (LF_X11_totalBy N) x1 x2 x3 x4 σ5) _
      unfold LB_X11_totalBy_78
      have min : aTs S b k i D' = (aMin S D').2 → Rt (fb (F_X1_goesMinute 33 σ5) (fun r9 σ8 => fl (x4 + 1) (fun v10 => LF_X11_totalBy N 1 x1 x2 x3 v10 σ8))) (fun r σ' => r.toInt = tot n (aTb S b k j (i + 1) (aTs S b k i D')) ∧ FXv σ σ') := by
        intro e9
        refine Rt_fb (minC (c0 := 33) (by decide) sb db5 (by omega) s5 d5) (fun r9 σ8 ⟨_, d8, f8⟩ => ?_)
        refine Rt_fl (fun v10 ev => ?_)
        rw [e9]
        exact Rt_w (ih (i + 1) N v10 _ (K + 6) σ8 (by omega) (by omega) (by rw [ev, i_inc (by omega)]; omega) (by omega) (by have := aMin_b sb db5; rw [show K + 6 = K + 5 + 1 from by omega]; exact this) (CS_m (by decide) f8 s5) d8) (fun r σ' q => ⟨q.1, FXv_tr f5 (FXv_tr (FXn_v f8) q.2)⟩)
      by_cases c0 : b = 0
      · refine Rt_t (i_eq (show _ = (0 : Int) by omega)) ?_
        rw [whIn (a := x4 + 1) (i := (i : Int) + 1) (by rw [i_inc (by omega)]; omega) h3 (by omega), fb_e]
        by_cases c1 : 1 ≤ k ∧ k < 16 ∧ ((i : Int) + 1) % k = 0
        · rw [if_pos c1]
          refine Rt_f (by decide) ?_
          have e9 : aTs S b k i D' = aWhe D' := by unfold aTs; rw [if_pos ⟨c0, c1⟩]
          refine Rt_fs (whetC (c0 := 33) (by decide) sb db5 (by omega) s5 d5) (fun σ8 ⟨d8, f8⟩ => ?_)
          refine Rt_fl (fun v10 ev => ?_)
          rw [e9]
          exact Rt_w (ih (i + 1) N v10 _ (K + 6) σ8 (by omega) (by omega) (by rw [ev, i_inc (by omega)]; omega) (by omega) (by have := aWhe_b db5; rw [show K + 6 = K + 5 + 1 from by omega]; exact this) (CS_m (by decide) f8 s5) d8) (fun r σ' q => ⟨q.1, FXv_tr f5 (FXv_tr (FXn_v f8) q.2)⟩)
        · rw [if_neg c1]
          exact Rt_t rfl (min (by unfold aTs; rw [if_neg (fun z => c1 z.2)]))
      · exact Rt_f (i_ne (show _ ≠ (0 : Int) by omega)) (min (by unfold aTs; rw [if_neg (fun z => c0 z.1)]))
    by_cases c3 : b = 3
    · refine Rt_t (i_eq (show _ = (3 : Int) by omega)) ?_
      by_cases c4 : (i : Int) = k
      · refine Rt_t (i_eq (by omega)) ?_
        refine Rt_fs (restC (c0 := 33) (j := 5) (by decide) sb db (by omega) rfl (by decide) cs cd) (fun σ6 ⟨d6, f6⟩ => ?_)
        exact go σ6 (aPas 5 15 D) (by unfold aTp; rw [if_pos ⟨c3, c4⟩]) (FXn_v f6) (CS_m (by decide) f6 cs) d6
      · exact Rt_f (i_ne (by omega)) (go σ D (by unfold aTp; rw [if_neg (fun z => c4 z.2)]) FXv_rf cs cd)
    · exact Rt_f (i_ne (show _ ≠ (3 : Int) by omega)) (go σ D (by unfold aTp; rw [if_neg (fun z => c3 z.1)]) FXv_rf cs cd)
theorem CS_gp {n : Nat} {S : Stc} {g : Int} {σ : Sg} {v : Int32} (hv : v.toInt = g) (hg : 0 ≤ g) (h : CS 33 n S σ) : CS 33 n (sGp g S) (si σ 33 11 v) := by
  obtain ⟨h1, h2, h3, h4, h5, ⟨f, h6, h7, h8⟩, h9, h10⟩ := h
  have e : ∀ id k, ¬ (id = 33 ∧ k = 11) → gi (si σ 33 11 v) id k = gi σ id k := fun id k a => gi_si_ne (by omega)
  refine ⟨by rw [e 33 1 (by omega)]; exact h1, by rw [e 33 3 (by omega)]; exact h2, fun p hp => by rw [e (33 + 2) p (by omega)]; exact h3 p hp, fun m hm => ?_, fun k hk => by rw [e (33 + 7) k (by omega)]; exact h5 k hk, ⟨f, h6, h7, FdA_eq (fun id k a b => e id k (by omega)) h8⟩, h9, Or.inl ⟨by rw [gi_si_eq, hv]; exact hg, by rw [gi_si_eq, hv]; rfl⟩⟩
  obtain ⟨μ, κ, a1, a2, a3, a4, a5, a6, a7, a8⟩ := h4 m hm
  exact ⟨μ, κ, a1, a2, a3, a4, a5, by rw [e μ 0 (by omega)]; exact a6, by rw [e μ 1 (by omega)]; exact a7, by rw [e μ 2 (by omega)]; exact a8⟩
theorem stpC {n m : Nat} {K r : Int} {D : Dyn} {σ : Sg} {y : Int32} (d : DBd n K D) (hm : m < n) (hy : y.toInt = r) (hr : 0 ≤ r ∧ r ≤ 20) (hd : CDy 33 n D σ) : CDy 33 n (aStp m r D) (si σ 39 m (gi σ 39 m + y)) := by
  obtain ⟨m1, m2, m3, m4, m5⟩ := hd
  have d5 := (DBd_i.mp d).2.2.2.2 m hm
  have t : (gi σ 39 m).toInt = D_st D m := m5 m hm
  refine ⟨by rw [gi_si_ne (Or.inl (by decide))]; exact m1, row_k m2 (fun j => gi_si_ne (Or.inl (by decide))), row_k m3 (fun j => gi_si_ne (Or.inl (by decide))), row_k m4 (fun j => gi_si_ne (Or.inl (by decide))), row_u m5 ?_ (fun j hj => gi_si_ne (Or.inr hj))⟩
  rw [show (33 + 6 : Nat) = 39 from rfl, gi_si_eq, i_add (by omega) (by omega), t, hy]
theorem CS_39 {n k : Nat} {S : Stc} {σ : Sg} {v : Int32} (h : CS 33 n S σ) : CS 33 n S (si σ 39 k v) := CS_eq (fun id j a => gi_si_ne (Or.inl (by unfold RcC at a; omega))) (fun k => rfl) rfl h
/-- all after n minutes, by b and k -/
theorem tbC {n j : Nat} {K b k : Int} {S : Stc} {D : Dyn} {σ : Sg} {x1 x2 x3 : Int32} (h : HCl n K S D σ) (h1 : x1.toInt = b) (hb : 0 ≤ b ∧ b ≤ 3) (h2 : x2.toInt = (j : Int)) (hj : j ≤ 60) (h3 : x3.toInt = k) (hk : b = 1 → 0 ≤ k ∧ k ≤ 99) :
    Rt (F_X11_totalBy x1 x2 x3 σ) (fun r σ' => r.toInt = tot n (aTb (if b = 1 then sGp k S else S) b k j 0 (if b = 2 ∧ 0 ≤ k ∧ k < (n : Int) then aStp k.toNat 5 D else D)) ∧ FXv σ σ') := by
  obtain ⟨sb, db, hK, hr, h99, cs, cd⟩ := id h
  have n6 := sb.1
  unfold F_X11_totalBy
  refine Rt_fs (HCl_bec h) (fun σ1 ⟨s1, d1, f1⟩ => ?_)
  have c11 : (gi σ1 1 1).toInt = (n : Int) := by rw [FXv_i f1 (by omega)]; exact cs.1
  by_cases b1 : b = 1
  · refine Rt_t (i_eq (show _ = (1 : Int) by omega)) ?_
    rw [if_pos b1, if_neg (show ¬ (b = 2 ∧ 0 ≤ k ∧ k < (n : Int)) by omega)]
    refine Rt_fl (fun σ3 e3 => ?_)
    have f3 : FXv σ1 σ3 := by rw [e3]; exact FX_si FX_rf (Or.inl (Or.inl (by decide)))
    have s3 : CS 33 n (sGp k S) σ3 := by rw [e3]; exact CS_gp h3 (hk b1).1 s1
    have d3 : CDy 33 n D σ3 := by rw [e3]; exact CDy_eq (fun id j a => gi_si_ne (by omega)) d1
    show Rt (LB_X11_totalBy_24 (LF_X11_totalBy 1999) x1 x2 x3 σ3) _
    unfold LB_X11_totalBy_24
    refine Rt_f (i_ne (show _ ≠ (2 : Int) by omega)) ?_
    exact Rt_w (totLC (SBd_gp sb (hk b1)) h1 h3 (by omega) j 0 1999 (0 : Int32) D K σ3 (by rw [h2]; omega) (by omega) rfl (by omega) db s3 d3) (fun r σ' q => ⟨q.1, FXv_tr f1 (FXv_tr f3 q.2)⟩)
  · refine Rt_f (i_ne (show _ ≠ (1 : Int) by omega)) ?_
    rw [if_neg b1]
    show Rt (LB_X11_totalBy_24 (LF_X11_totalBy 1999) x1 x2 x3 σ1) _
    unfold LB_X11_totalBy_24
    by_cases b2 : b = 2
    · refine Rt_t (i_eq (show _ = (2 : Int) by omega)) ?_
      rw [isMC c11, fb_e, h3]
      by_cases c : 0 ≤ k ∧ k < (n : Int)
      · rw [if_pos c, if_pos (show b = 2 ∧ 0 ≤ k ∧ k < (n : Int) from ⟨b2, c⟩)]
        refine Rt_f (by decide) ?_
        have ex := cl_eq (x := x3) (by omega)
        rw [show x3.toNatClampNeg = k.toNat from by omega]
        refine Rt_fl (fun σ7 e7 => ?_)
        have f7 : FXv σ1 σ7 := by rw [e7]; exact FX_si FX_rf (Or.inl (Or.inl (by decide)))
        have s7 : CS 33 n S σ7 := by rw [e7]; exact CS_39 s1
        have d7 : CDy 33 n (aStp k.toNat 5 D) σ7 := by rw [e7]; exact stpC db (by omega) rfl (by decide) d1
        exact Rt_w (totLC sb h1 h3 (by omega) j 0 1999 (0 : Int32) _ K σ7 (by rw [h2]; omega) (by omega) rfl (by omega) (aStp_b (r := 5) db (h99 k.toNat (by omega)) (by omega) (by decide)) s7 d7) (fun r σ' q => ⟨q.1, FXv_tr f1 (FXv_tr f7 q.2)⟩)
      · rw [if_neg c, if_neg (show ¬ (b = 2 ∧ 0 ≤ k ∧ k < (n : Int)) from fun z => c z.2)]
        refine Rt_t rfl ?_
        exact Rt_w (totLC sb h1 h3 (by omega) j 0 1999 (0 : Int32) D K σ1 (by rw [h2]; omega) (by omega) rfl (by omega) db s1 d1) (fun r σ' q => ⟨q.1, FXv_tr f1 q.2⟩)
    · refine Rt_f (i_ne (show _ ≠ (2 : Int) by omega)) ?_
      rw [if_neg (show ¬ (b = 2 ∧ 0 ≤ k ∧ k < (n : Int)) from fun z => b2 z.1)]
      exact Rt_w (totLC sb h1 h3 (by omega) j 0 1999 (0 : Int32) D K σ1 (by rw [h2]; omega) (by omega) rfl (by omega) db s1 d1) (fun r σ' q => ⟨q.1, FXv_tr f1 q.2⟩)
theorem aTb_mins {S : Stc} {b k : Int} : ∀ (j i : Nat) (D : Dyn), b ≠ 0 → (b ≠ 3 ∨ k < (i : Int) ∨ (i : Int) + (j : Int) ≤ k) → aTb S b k j i D = aMins S j D := by
  intro j
  induction j with
  | zero => intro i D _ _; rfl
  | succ j ih =>
    intro i D hb h
    show aTb S b k j (i + 1) (aTs S b k i (aTp b k i D)) = aMins S j (aMin S D).2
    have e1 : aTp b k i D = D := by unfold aTp; rw [if_neg (fun z => by rcases h with h | h | h; exact h z.1; all_goals omega)]
    have e2 : aTs S b k i D = (aMin S D).2 := by unfold aTs; rw [if_neg (fun z => hb z.1)]
    rw [e1, e2]
    exact ih (i + 1) _ hb (by omega)
theorem aTb_whe {S : Stc} {k : Nat} (hk : 1 ≤ k) : ∀ (j i : Nat) (D : Dyn), aTb S 0 (k : Int) j i D = aTw S k j (i + 1) D := by
  intro j
  induction j with
  | zero => intro i D; rfl
  | succ j ih =>
    intro i D
    show aTb S 0 (k : Int) j (i + 1) (aTs S 0 (k : Int) i (aTp 0 (k : Int) i D)) = aTw S k j (i + 1 + 1) (if k < 16 ∧ (i + 1) % k = 0 then aWhe D else (aMin S D).2)
    have e1 : aTp 0 (k : Int) i D = D := by unfold aTp; rw [if_neg (fun z => absurd z.1 (by decide))]
    have e2 : aTs S 0 (k : Int) i D = if k < 16 ∧ (i + 1) % k = 0 then aWhe D else (aMin S D).2 := by
      unfold aTs
      have m : ((i : Int) + 1) % (k : Int) = (((i + 1) % k : Nat) : Int) := by rw [show (i : Int) + 1 = ((i + 1 : Nat) : Int) from by omega]; rfl
      by_cases c : k < 16 ∧ (i + 1) % k = 0
      · rw [if_pos c, if_pos ⟨rfl, by omega, by omega, by rw [m, c.2]; rfl⟩]
      · rw [if_neg c, if_neg (fun z => c ⟨by have := z.2.2.1; omega, by have := z.2.2.2; rw [m] at this; omega⟩)]
    rw [e1, e2]
    exact ih (i + 1) _
theorem aTb_pz {S : Stc} {k : Nat} : ∀ (j i : Nat) (D : Dyn), i ≤ k → k < i + j → aTb S 3 (k : Int) j i D = aMins S (i + j - k) (aPas 5 15 (aMins S (k - i) D)) := by
  intro j
  induction j with
  | zero => intro i D h1 h2; omega
  | succ j ih =>
    intro i D h1 h2
    show aTb S 3 (k : Int) j (i + 1) (aTs S 3 (k : Int) i (aTp 3 (k : Int) i D)) = _
    have e2 : ∀ D', aTs S 3 (k : Int) i D' = (aMin S D').2 := fun D' => by unfold aTs; rw [if_neg (fun z => absurd z.1 (by decide))]
    by_cases c : i = k
    · subst c
      have e1 : aTp 3 (i : Int) i D = aPas 5 15 D := by unfold aTp; rw [if_pos ⟨rfl, rfl⟩]
      rw [e1, e2, aTb_mins j (i + 1) _ (by decide) (Or.inr (Or.inl (by omega))), show i + (j + 1) - i = j + 1 from by omega, show i - i = 0 from by omega]; rfl
    · have e1 : aTp 3 (k : Int) i D = D := by unfold aTp; rw [if_neg (fun z => by have := z.2; omega)]
      rw [e1, e2, ih (i + 1) _ (by omega) (by omega), show i + 1 + j - k = i + (j + 1) - k from by omega, show k - i = (k - (i + 1)) + 1 from by omega]; rfl
theorem tot_pz {n k j : Nat} {S : Stc} {D : Dyn} (h : k ≤ j) : tot n (aTb S 3 (k : Int) j 0 D) = tot n (aPz S j k D) := by
  by_cases c : k < j
  · rw [aTb_pz j 0 D (by omega) (by omega), show 0 + j - k = j - k from by omega, show k - 0 = k from by omega]; rfl
  · obtain rfl : k = j := by omega
    rw [aTb_mins k 0 D (by decide) (Or.inr (Or.inr (by omega)))]
    unfold aPz
    rw [show k - k = 0 from by omega]; rfl
/-- the most, by numbers -/
theorem mstLC {n : Nat} {K : Int} {S : Stc} {D : Dyn} {x1 x2 x4 x5 : Int32} {last : Nat} {f : Nat → Int} (h4 : x4.toInt = (last : Int) ∨ (x4.toInt = -1 ∧ last = 0)) (hl : last ≤ 60)
    (T : ∀ (k : Nat) (x8 : Int32) (σ : Sg), (k : Int) ≤ x4.toInt → x8.toInt = (k : Int) → HCl n K S D σ → Rt (F_X11_totalBy x1 x2 x8 σ) (fun r σ' => r.toInt = f k ∧ FXv σ σ')) : ∀ (i k N : Nat) (x6 x7 x8 : Int32) (b m : Int) (σ : Sg), (k : Int) + (i : Int) = x4.toInt + 1 → i < N → x6.toInt = b → x7.toInt = m → x8.toInt = (k : Int) → HCl n K S D σ →
    Rt (LF_X11_mostBy N x1 x2 x4 x5 x6 x7 x8 σ) (fun r σ' => r.toInt = (if x5.toInt = 0 then (aBst f i k b m).1 else (aBst f i k b m).2) ∧ FXv σ σ') := by
  intro i
  induction i with
  | zero =>
    intro k N x6 x7 x8 b m σ hi hN h6 h7 h8 h
    obtain ⟨N, rfl⟩ : ∃ i, N = i + 1 := ⟨N - 1, by omega⟩
    show Rt (LB_X11_mostBy_17 (LF_X11_mostBy N) x1 x2 x4 x5 x6 x7 x8 σ) _
    unfold LB_X11_mostBy_17
    refine Rt_t (i_lt (by omega)) ?_
    by_cases c : x5.toInt = 0
    · rw [if_pos c]; exact Rt_t (i_eq c) (Rt_p ⟨h6, FXv_rf⟩)
    · rw [if_neg c]; exact Rt_f (i_ne c) (Rt_p ⟨h7, FXv_rf⟩)
  | succ i ih =>
    intro k N x6 x7 x8 b m σ hi hN h6 h7 h8 h
    obtain ⟨N, rfl⟩ : ∃ i, N = i + 1 := ⟨N - 1, by omega⟩
    show Rt (LB_X11_mostBy_17 (LF_X11_mostBy N) x1 x2 x4 x5 x6 x7 x8 σ) _
    unfold LB_X11_mostBy_17
    refine Rt_f (i_nlt (by omega)) ?_
    refine Rt_fb (T k x8 σ (by omega) h8 h) (fun r4 σ3 ⟨v, z⟩ => ?_)
    rw [aBst_s]
    by_cases c : m < f k
    · refine Rt_f (i_nle (by omega)) ?_
      rw [if_pos c]
      refine Rt_fl (fun v6 e6 => ?_)
      exact Rt_w (ih (k + 1) N x8 r4 v6 _ _ σ3 (by omega) (by omega) h8 v (by rw [e6, i_inc (by omega)]; omega) (HCl_v z h)) (fun r σ' q => ⟨q.1, FXv_tr z q.2⟩)
    · refine Rt_t (i_le (by omega)) ?_
      rw [if_neg c]
      refine Rt_fl (fun v6 e6 => ?_)
      exact Rt_w (ih (k + 1) N x6 x7 v6 _ _ σ3 (by omega) (by omega) h6 h7 (by rw [e6, i_inc (by omega)]; omega) (HCl_v z h)) (fun r σ' q => ⟨q.1, FXv_tr z q.2⟩)
theorem aBst_0 {f : Nat → Int} {j k : Nat} (h : 0 ≤ f k) : aBst f (j + 1) k 0 (-1) = aBst f j (k + 1) (k : Int) (f k) := by
  rw [aBst_s, if_pos (by omega)]
theorem mst_in {n j : Nat} {K : Int} {S : Stc} {D : Dyn} {σ : Sg} {x1 x2 x3 x4 x5 : Int32} {first last : Nat} {f : Nat → Int} (h : HCl n K S D σ) (h3 : x3.toInt = (first : Int)) (h4 : x4.toInt = (last : Int)) (hfl : first ≤ last) (hl : last ≤ 60) (hf : 0 ≤ f first) (e : last = first + j)
    (T : ∀ (k : Nat) (x8 : Int32) (σ : Sg), (first : Int) ≤ (k : Int) → (k : Int) ≤ x4.toInt → x8.toInt = (k : Int) → HCl n K S D σ → Rt (F_X11_totalBy x1 x2 x8 σ) (fun r σ' => r.toInt = f k ∧ FXv σ σ')) :
    Rt (F_X11_mostBy x1 x2 x3 x4 x5 σ) (fun r σ' => r.toInt = (if x5.toInt = 0 then (aBst f (j + 1) first 0 (-1)).1 else (aBst f (j + 1) first 0 (-1)).2) ∧ FXv σ σ') := by
  unfold F_X11_mostBy
  refine Rt_fb (T first x3 σ (Int.le_refl _) (by omega) h3 h) (fun r2 σ1 ⟨v, z⟩ => ?_)
  refine Rt_fl (fun v3 e3 => ?_)
  rw [aBst_0 hf]
  have go : ∀ (i k N : Nat) (x6 x7 x8 : Int32) (b m : Int) (σ : Sg), first ≤ k → (k : Int) + (i : Int) = x4.toInt + 1 → i < N → x6.toInt = b → x7.toInt = m → x8.toInt = (k : Int) → HCl n K S D σ →
    Rt (LF_X11_mostBy N x1 x2 x4 x5 x6 x7 x8 σ) (fun r σ' => r.toInt = (if x5.toInt = 0 then (aBst f i k b m).1 else (aBst f i k b m).2) ∧ FXv σ σ') := by
    intro i
    induction i with
    | zero =>
      intro k N x6 x7 x8 b m σ hk hi hN h6 h7 h8 h
      obtain ⟨N, rfl⟩ : ∃ i, N = i + 1 := ⟨N - 1, by omega⟩
      show Rt (LB_X11_mostBy_17 (LF_X11_mostBy N) x1 x2 x4 x5 x6 x7 x8 σ) _
      unfold LB_X11_mostBy_17
      refine Rt_t (i_lt (by omega)) ?_
      by_cases c : x5.toInt = 0
      · rw [if_pos c]; exact Rt_t (i_eq c) (Rt_p ⟨h6, FXv_rf⟩)
      · rw [if_neg c]; exact Rt_f (i_ne c) (Rt_p ⟨h7, FXv_rf⟩)
    | succ i ih =>
      intro k N x6 x7 x8 b m σ hk hi hN h6 h7 h8 h
      obtain ⟨N, rfl⟩ : ∃ i, N = i + 1 := ⟨N - 1, by omega⟩
      show Rt (LB_X11_mostBy_17 (LF_X11_mostBy N) x1 x2 x4 x5 x6 x7 x8 σ) _
      unfold LB_X11_mostBy_17
      refine Rt_f (i_nlt (by omega)) ?_
      refine Rt_fb (T k x8 σ (by omega) (by omega) h8 h) (fun r4 σ3 ⟨v, z⟩ => ?_)
      rw [aBst_s]
      by_cases c : m < f k
      · refine Rt_f (i_nle (by omega)) ?_
        rw [if_pos c]
        refine Rt_fl (fun v6 e6 => ?_)
        exact Rt_w (ih (k + 1) N x8 r4 v6 _ _ σ3 (by omega) (by omega) (by omega) h8 v (by rw [e6, i_inc (by omega)]; omega) (HCl_v z h)) (fun r σ' q => ⟨q.1, FXv_tr z q.2⟩)
      · refine Rt_t (i_le (by omega)) ?_
        rw [if_neg c]
        refine Rt_fl (fun v6 e6 => ?_)
        exact Rt_w (ih (k + 1) N x6 x7 v6 _ _ σ3 (by omega) (by omega) (by omega) h6 h7 (by rw [e6, i_inc (by omega)]; omega) (HCl_v z h)) (fun r σ' q => ⟨q.1, FXv_tr z q.2⟩)
  exact Rt_w (go j (first + 1) 90 x3 r2 v3 _ _ σ1 (by omega) (by omega) (by omega) h3 v (by rw [e3, i_inc (by omega)]; omega) (HCl_v z h)) (fun r σ' q => ⟨q.1, FXv_tr z q.2⟩)
