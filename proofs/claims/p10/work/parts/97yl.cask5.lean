/-! what the class answers: stop, alone, odds, mean -/
theorem aHit_s {m j k : Nat} {f g : Nat → Int} {x : Int32} : aHit m f g (j + 1) k x = aHit m f g j (k + 1) (if k ≠ m ∧ g k < f k then x ||| ((1 : Int32) <<< (nI k &&& 31)) else x) := Eq.trans rfl rfl
theorem hitLC {n m : Nat} {f g : Nat → Int} {σ : Sg} {x1 : Int32} (n6 : n ≤ 6) (hn : (gi σ 33 1).toInt = (n : Int)) (hf : ∀ k, k < n → (gi σ 68 k).toInt = f k) (hg : ∀ k, k < n → (gi σ 36 k).toInt = g k) (h1 : x1.toInt = (m : Int)) : ∀ (i k N : Nat) (x2 x3 : Int32), i + k = n → i < N → x3.toInt = (k : Int) →
    LF_X11_hits N x1 x2 x3 σ = (aHit m f g i k x2, σ) := by
  intro i
  induction i with
  | zero =>
    intro k N x2 x3 hi hN h3
    obtain ⟨N, rfl⟩ : ∃ i, N = i + 1 := ⟨N - 1, by omega⟩
    show LB_X11_hits_4 (LF_X11_hits N) x1 x2 x3 σ = _
    unfold LB_X11_hits_4
    rw [if_pos (i_le (by omega))]; rfl
  | succ i ih =>
    intro k N x2 x3 hi hN h3
    obtain ⟨N, rfl⟩ : ∃ i, N = i + 1 := ⟨N - 1, by omega⟩
    have ex := cl_eq (x := x3) (by omega)
    have ep : x3.toNatClampNeg = k := by omega
    have e3 : x3 = nI k := by rw [← ep]; exact nI_ofI (by omega)
    have fk := hf k (by omega)
    have gk := hg k (by omega)
    show LB_X11_hits_4 (LF_X11_hits N) x1 x2 x3 σ = _
    unfold LB_X11_hits_4
    rw [if_neg (i_nle (by omega)), ep, aHit_s]
    have v8 : (x3 + 1).toInt = ((k + 1 : Nat) : Int) := by rw [i_inc (by omega)]; omega
    by_cases c : k = m
    · rw [if_pos (show x3 = x1 from i_eq (by omega)), if_neg (show ¬ (k ≠ m ∧ g k < f k) from fun z => z.1 c), fl_e]
      exact ih (k + 1) N x2 _ (by omega) (by omega) v8
    · rw [if_neg (show ¬ x3 = x1 from i_ne (by omega))]
      by_cases d : g k < f k
      · rw [if_neg (i_nle (by omega)), if_pos (show k ≠ m ∧ g k < f k from ⟨c, d⟩), fl_e, fl_e, ← e3]
        exact ih (k + 1) N _ _ (by omega) (by omega) v8
      · rw [if_pos (i_le (by omega)), if_neg (show ¬ (k ≠ m ∧ g k < f k) from fun z => d z.2), fl_e]
        exact ih (k + 1) N x2 _ (by omega) (by omega) v8
theorem bec68 : ∀ (k p N : Nat) (σ : Sg) (x2 : Int32), p + k = 6 → k < N → x2.toInt = (p : Int) → Ru (LF_X1_becomes 33 1 N x2 σ) (fun σ' => ∀ j, gi σ' 68 j = gi σ 68 j) := by
  intro k
  induction k with
  | zero =>
    intro p N σ x2 hp hN h2
    obtain ⟨N, rfl⟩ : ∃ i, N = i + 1 := ⟨N - 1, by omega⟩
    show Ru (LB_X1_becomes_42 33 1 (LF_X1_becomes 33 1 N) x2 σ) _
    unfold LB_X1_becomes_42
    refine Ru_t (i_le (show (6 : Int) ≤ _ by omega)) (Ru_fl (fun σ2 e2 => Ru_p (fun j => ?_)))
    rw [e2, gi_sia, if_neg (by decide)]
  | succ k ih =>
    intro p N σ x2 hp hN h2
    obtain ⟨N, rfl⟩ : ∃ i, N = i + 1 := ⟨N - 1, by omega⟩
    show Ru (LB_X1_becomes_42 33 1 (LF_X1_becomes 33 1 N) x2 σ) _
    unfold LB_X1_becomes_42
    refine Ru_f (i_nle (show _ < (6 : Int) by omega)) ?_
    refine Ru_fl (fun σ5 e5 => Ru_fl (fun σ9 e9 => Ru_fl (fun σ12 e12 => Ru_fl (fun σ15 e15 => Ru_fl (fun σ18 e18 => Ru_fl (fun σ21 e21 => Ru_fl (fun v22 e22 => ?_)))))))
    refine Ru_w (ih (p + 1) N σ21 v22 (by omega) (by omega) (by rw [e22, i_inc (by omega)]; omega)) (fun σ' h j => ?_)
    rw [h j, e21, gi_si_ne (Or.inl (by decide)), e18, gi_si_ne (Or.inl (by decide)), e15, gi_si_ne (Or.inl (by decide)), e12, gi_si_ne (Or.inl (by decide)), e9, gi_si_ne (Or.inl (by decide)), e5, gi_sr]
theorem st22C {n m r j : Nat} {K : Int} {S : Stc} {D : Dyn} {σ : Sg} {x1 x2 x3 x4 : Int32} (h : HCl n K S D σ) (h1 : x1.toInt = (m : Int)) (hm : m < n) (h2 : x2.toInt = (r : Int)) (hr : 1 ≤ r ∧ r ≤ 20) (h3 : x3.toInt = (j : Int)) (hj : 1 ≤ j ∧ j ≤ 60) : Rt (LF_X11_stop 9 x1 x2 x3 x4 σ) (fun q _ => ∃ u v : Int32, u.toInt = tot n (aMins S j D) ∧ v.toInt = tot n (aMins S j (aStp m r D)) ∧ q = if x4.toInt = 0 then u - v else aHit m (D_at (aMins S j D)) (D_at (aMins S j (aStp m r D))) n 0 0) := by
  obtain ⟨sb, db, hK, hrr, h99, cs, cd⟩ := id h
  have n6 := sb.1
  have ex := cl_eq (x := x1) (by omega)
  show Rt (LB_X11_stop_22 (LF_X11_stop 8) x1 x2 x3 x4 σ) _
  unfold LB_X11_stop_22
  refine Rt_f (i_nlt (show (1 : Int) ≤ _ by omega)) (Rt_f (i_nlt (show _ ≤ (20 : Int) by omega)) (Rt_f (i_nlt (show (1 : Int) ≤ _ by omega)) (Rt_t (i_le (show _ ≤ (60 : Int) by omega)) ?_)))
  rw [show x1.toNatClampNeg = m from by omega]
  refine Rt_fs (HCl_bec h) (fun σ5 ⟨s5, d5, f5⟩ => ?_)
  refine Rt_fs (gosC9 (c0 := 33) (by decide) sb h3 (by omega) (by omega) db s5 d5) (fun σ6 ⟨d6, f6⟩ => ?_)
  have s6 := CS_m (by decide) f6 s5
  have db6 := aMins_b sb j D K db
  obtain ⟨u, e, hu⟩ := allC n6 s6.1 db6 d6
  refine Rt_fe e ?_
  refine Rt_fl (fun σ9 e9 => ?_)
  have f9 : FXv σ6 σ9 := by rw [e9]; exact FX_sia FX_rf (Or.inr (by decide))
  have fA : FXv σ σ9 := FXv_tr f5 (FXv_tr (FXn_v f6) f9)
  have k68 : ∀ k, k < 6 → gi σ9 68 k = gi σ6 36 k := fun k hk => by rw [e9, gi_sia, if_pos rfl]; exact cpy_in _ _ hk
  have h9 := HCl_v fA h
  refine Rt_fs (Ru_and (HCl_bec h9) (show Ru (F_X1_becomes 33 1 σ9) (fun σ' => ∀ k, gi σ' 68 k = gi σ9 68 k) from ?_)) (fun σ10 ⟨⟨s10, d10, f10⟩, g10⟩ => ?_)
  · unfold F_X1_becomes
    refine Ru_fl (fun t1 e1 => Ru_fl (fun t2 e2 => Ru_fl (fun t3 e3 => ?_)))
    obtain ⟨f, gf, -⟩ := h9.2.2.2.2.2.1.2.2.2.2.2.1
    refine Ru_o (a := f) (by rw [e3, gr_si, e2, gr_si, e1, gr_si]; exact gf) ?_
    refine Ru_fl (fun t5 e5 => Ru_fl (fun t6 e6 => ?_))
    have w : ∀ k, gi t6 68 k = gi σ9 68 k := fun k => by rw [e6, gi_si_ne (Or.inl (by decide)), e5, gi_sr, e3, gi_si_ne (Or.inl (by decide)), e2, gi_si_ne (Or.inl (by decide)), e1, gi_si_ne (Or.inl (by decide))]
    exact Ru_w (bec68 6 0 9 t6 (0 : Int32) rfl (by decide) rfl) (fun σ' q k => (q k).trans (w k))
  refine Rt_fl (fun σ13 e13 => ?_)
  have s13 : CS 33 n S σ13 := by rw [e13]; exact CS_39 s10
  have d13 : CDy 33 n (aStp m r D) σ13 := by rw [e13]; exact stpC db hm h2 (by omega) d10
  have db13 := aStp_b (r := (r : Int)) db (h99 m hm) hm (by omega)
  refine Rt_fs (gosC9 (c0 := 33) (by decide) sb h3 (by omega) (by omega) db13 s13 d13) (fun σ14 ⟨d14, f14⟩ => ?_)
  have s14 := CS_m (by decide) f14 s13
  obtain ⟨v, ev, hv⟩ := allC n6 s14.1 (aMins_b sb j _ K db13) d14
  by_cases c : x4.toInt = 0
  · refine Rt_t (i_eq (show _ = (0 : Int) from c)) (Rt_fe ev ?_)
    exact ⟨u, v, hu, hv, by rw [if_pos c]⟩
  · refine Rt_f (i_ne (show _ ≠ (0 : Int) from c)) ?_
    have hh := hitLC (m := m) (f := D_at (aMins S j D)) (g := D_at (aMins S j (aStp m r D))) (σ := σ14) n6 s14.1 (fun k hk => by
      rw [FXn_i f14 (by omega), e13, gi_si_ne (Or.inl (by decide)), g10, k68 k (by omega)]
      exact d6.2.1 k hk) (fun k hk => d14.2.1 k hk) h1 n 0 9 (0 : Int32) (0 : Int32) (by omega) (by omega) rfl
    refine Rt_fe (show F_X11_hits x1 σ14 = _ from hh) ?_
    exact ⟨u, v, hu, hv, by rw [if_neg c]⟩
theorem stopC {n : Nat} {K : Int} {S : Stc} {D : Dyn} {σ : Sg} {a1 a2 a3 a4 : Int32} (h : HCl n K S D σ) : Rt (F_X11_stop a1 a2 a3 a4 σ) (fun q _ =>
    (∃ m r j : Nat, a1.toInt = (m : Int) ∧ m < n ∧ a2.toInt = (r : Int) ∧ (1 ≤ r ∧ r ≤ 20) ∧ a3.toInt = (j : Int) ∧ (1 ≤ j ∧ j ≤ 60) ∧ (0 ≤ a4.toInt ∧ a4.toInt ≤ 1) ∧ ∃ u v : Int32, u.toInt = tot n (aMins S j D) ∧ v.toInt = tot n (aMins S j (aStp m r D)) ∧ q = if a4.toInt = 0 then u - v else aHit m (D_at (aMins S j D)) (D_at (aMins S j (aStp m r D))) n 0 0)
      ∨ (((0 ≤ a1.toInt ∧ a1.toInt < (n : Int)) ∧ (0 ≤ a4.toInt ∧ a4.toInt ≤ 1)) ∧ ¬ ((1 ≤ a2.toInt ∧ a2.toInt ≤ 20) ∧ (1 ≤ a3.toInt ∧ a3.toInt ≤ 60)) ∧ q = (-100002 : Int32))
      ∨ (¬ ((0 ≤ a1.toInt ∧ a1.toInt < (n : Int)) ∧ (0 ≤ a4.toInt ∧ a4.toInt ≤ 1)) ∧ q = (-100001 : Int32))) := by
  have n6 := h.1.1
  have hn := h.2.2.2.2.2.1.1
  unfold F_X11_stop
  rw [isMC hn, fb_e]
  by_cases c1 : 0 ≤ a1.toInt ∧ a1.toInt < (n : Int)
  · rw [if_pos c1]
    refine Rt_f (by decide) ?_
    have core : 0 ≤ a4.toInt ∧ a4.toInt ≤ 1 → Rt (LF_X11_stop 9 a1 a2 a3 a4 σ) (fun q _ =>
      (∃ m r j : Nat, a1.toInt = (m : Int) ∧ m < n ∧ a2.toInt = (r : Int) ∧ (1 ≤ r ∧ r ≤ 20) ∧ a3.toInt = (j : Int) ∧ (1 ≤ j ∧ j ≤ 60) ∧ (0 ≤ a4.toInt ∧ a4.toInt ≤ 1) ∧ ∃ u v : Int32, u.toInt = tot n (aMins S j D) ∧ v.toInt = tot n (aMins S j (aStp m r D)) ∧ q = if a4.toInt = 0 then u - v else aHit m (D_at (aMins S j D)) (D_at (aMins S j (aStp m r D))) n 0 0)
      ∨ (((0 ≤ a1.toInt ∧ a1.toInt < (n : Int)) ∧ (0 ≤ a4.toInt ∧ a4.toInt ≤ 1)) ∧ ¬ ((1 ≤ a2.toInt ∧ a2.toInt ≤ 20) ∧ (1 ≤ a3.toInt ∧ a3.toInt ≤ 60)) ∧ q = (-100002 : Int32))
      ∨ (¬ ((0 ≤ a1.toInt ∧ a1.toInt < (n : Int)) ∧ (0 ≤ a4.toInt ∧ a4.toInt ≤ 1)) ∧ q = (-100001 : Int32))) := by
      intro c4
      by_cases g : (1 ≤ a2.toInt ∧ a2.toInt ≤ 20) ∧ (1 ≤ a3.toInt ∧ a3.toInt ≤ 60)
      · obtain ⟨j, hj⟩ : ∃ j : Nat, a3.toInt = (j : Int) := ⟨a3.toInt.toNat, by omega⟩
        obtain ⟨r, hr⟩ : ∃ r : Nat, a2.toInt = (r : Int) := ⟨a2.toInt.toNat, by omega⟩
        obtain ⟨m, hm⟩ : ∃ m : Nat, a1.toInt = (m : Int) := ⟨a1.toInt.toNat, by omega⟩
        exact Rt_w (st22C h hm (by omega) hr (by omega) hj (by omega)) (fun q σ' z => Or.inl ⟨m, r, j, hm, by omega, hr, by omega, hj, by omega, c4, z⟩)
      · have bad : Rt ((-100002 : Int32), σ) (fun q _ =>
          (∃ m r j : Nat, a1.toInt = (m : Int) ∧ m < n ∧ a2.toInt = (r : Int) ∧ (1 ≤ r ∧ r ≤ 20) ∧ a3.toInt = (j : Int) ∧ (1 ≤ j ∧ j ≤ 60) ∧ (0 ≤ a4.toInt ∧ a4.toInt ≤ 1) ∧ ∃ u v : Int32, u.toInt = tot n (aMins S j D) ∧ v.toInt = tot n (aMins S j (aStp m r D)) ∧ q = if a4.toInt = 0 then u - v else aHit m (D_at (aMins S j D)) (D_at (aMins S j (aStp m r D))) n 0 0)
          ∨ (((0 ≤ a1.toInt ∧ a1.toInt < (n : Int)) ∧ (0 ≤ a4.toInt ∧ a4.toInt ≤ 1)) ∧ ¬ ((1 ≤ a2.toInt ∧ a2.toInt ≤ 20) ∧ (1 ≤ a3.toInt ∧ a3.toInt ≤ 60)) ∧ q = (-100002 : Int32))
          ∨ (¬ ((0 ≤ a1.toInt ∧ a1.toInt < (n : Int)) ∧ (0 ≤ a4.toInt ∧ a4.toInt ≤ 1)) ∧ q = (-100001 : Int32))) := Rt_p (Or.inr (Or.inl ⟨⟨c1, c4⟩, g, rfl⟩))
        show Rt (LB_X11_stop_22 (LF_X11_stop 8) a1 a2 a3 a4 σ) _
        unfold LB_X11_stop_22
        by_cases d1 : a2.toInt < 1
        · exact Rt_t (i_lt (show _ < (1 : Int) from d1)) bad
        refine Rt_f (i_nlt (show (1 : Int) ≤ _ by omega)) ?_
        by_cases d2 : 20 < a2.toInt
        · exact Rt_t (i_lt (show (20 : Int) < _ from d2)) bad
        refine Rt_f (i_nlt (show _ ≤ (20 : Int) by omega)) ?_
        by_cases d3 : a3.toInt < 1
        · exact Rt_t (i_lt (show _ < (1 : Int) from d3)) bad
        refine Rt_f (i_nlt (show (1 : Int) ≤ _ by omega)) ?_
        exact Rt_f (i_nle (show (60 : Int) < _ by omega)) bad
    by_cases e0 : a4.toInt = 0
    · exact Rt_t (i_eq (show _ = (0 : Int) from e0)) (core (by omega))
    refine Rt_f (i_ne (show _ ≠ (0 : Int) from e0)) ?_
    by_cases e1 : a4.toInt = 1
    · exact Rt_t (i_eq (show _ = (1 : Int) from e1)) (core (by omega))
    refine Rt_f (i_ne (show _ ≠ (1 : Int) from e1)) (Rt_p (Or.inr (Or.inr ⟨fun z => by omega, rfl⟩)))
  · rw [if_neg c1]
    exact Rt_t rfl (Rt_p (Or.inr (Or.inr ⟨fun z => c1 z.1, rfl⟩)))
/-! alone -/
theorem CS_al {n m : Nat} {S : Stc} {σ : Sg} {x : Int32} (hx : x.toInt = (m : Int)) (h : CS 33 n S σ) : CS 33 n (sAl m S) (si (si σ 35 0 x) 33 3 (1 : Int32)) := by
  obtain ⟨h1, h2, h3, h4, h5, ⟨f, h6, h7, h8⟩, h9, h10⟩ := h
  have e : ∀ id k, ¬ (id = 33 ∧ k = 3) → ¬ (id = 35 ∧ k = 0) → gi (si (si σ 35 0 x) 33 3 (1 : Int32)) id k = gi σ id k := fun id k a b => by rw [gi_si_ne (by omega), gi_si_ne (by omega)]
  refine ⟨by rw [e 33 1 (by omega) (by omega)]; exact h1, by rw [gi_si_eq]; rfl, fun p hp => ?_, fun m hm => ?_, fun k hk => by rw [e (33 + 7) k (by omega) (by omega)]; exact h5 k hk, ⟨f, h6, h7, FdA_eq (fun id k a b => e id k (by omega) (by omega)) h8⟩, h9, by rw [e 33 11 (by omega) (by omega)]; exact h10⟩
  · have hp : p < 1 := hp
    obtain rfl : p = 0 := by omega
    rw [gi_si_ne (Or.inl (by decide)), gi_si_eq]; exact hx
  · obtain ⟨μ, κ, a1, a2, a3, a4, a5, a6, a7, a8⟩ := h4 m hm
    exact ⟨μ, κ, a1, a2, a3, a4, a5, by rw [e μ 0 (by omega) (by omega)]; exact a6, by rw [e μ 1 (by omega) (by omega)]; exact a7, by rw [e μ 2 (by omega) (by omega)]; exact a8⟩
theorem alnLC {n j : Nat} {K : Int} {S : Stc} {D : Dyn} {x1 : Int32} (h1 : x1.toInt = (j : Int)) (hj : j ≤ 60) : ∀ (i k N : Nat) (x2 x3 : Int32) (b : Int) (σ : Sg), i + k = n → i < N → x2.toInt = b → -9999 * (k : Int) ≤ b ∧ b ≤ 60000 → x3.toInt = (k : Int) → HCl n K S D σ →
    Rt (LF_X11_alone N x1 x2 x3 σ) (fun r _ => r.toInt = aAln (fun m => D_at (aMins (sAl m S) j D) m) i k b) := by
  intro i
  induction i with
  | zero =>
    intro k N x2 x3 b σ hi hN h2 hb h3 h
    have hn := h.2.2.2.2.2.1.1
    obtain ⟨N, rfl⟩ : ∃ i, N = i + 1 := ⟨N - 1, by omega⟩
    show Rt (LB_X11_alone_43 (LF_X11_alone N) x1 x2 x3 σ) _
    unfold LB_X11_alone_43
    refine Rt_t (i_le (by omega)) ?_
    exact h2
  | succ i ih =>
    intro k N x2 x3 b σ hi hN h2 hb h3 h
    have hn := h.2.2.2.2.2.1.1
    have n6 := h.1.1
    have hK := h.2.2.1
    obtain ⟨N, rfl⟩ : ∃ i, N = i + 1 := ⟨N - 1, by omega⟩
    have ex := cl_eq (x := x3) (by omega)
    have sa := SBd_al (m := k) h.1 (by omega)
    have vb := ((DBd_i.mp (aMins_b sa j D K h.2.1)).2.1) k (by omega)
    show Rt (LB_X11_alone_43 (LF_X11_alone N) x1 x2 x3 σ) (fun r _ => r.toInt = aAln (fun m => D_at (aMins (sAl m S) j D) m) i (k + 1) (b - D_at (aMins (sAl k S) j D) k))
    unfold LB_X11_alone_43
    refine Rt_f (i_nle (by omega)) ?_
    rw [show (0 : Int32).toNatClampNeg = 0 from rfl, show x3.toNatClampNeg = k from by omega]
    refine Rt_fs (HCl_bec h) (fun σ2 ⟨s2, d2, f2⟩ => ?_)
    refine Rt_fl (fun σ4 e4 => Rt_fl (fun σ5 e5 => ?_))
    have s5 : CS 33 n (sAl k S) σ5 := by rw [e5, e4]; exact CS_al h3 s2
    have d5 : CDy 33 n D σ5 := by rw [e5, e4]; exact CDy_eq (fun id j a => by rw [gi_si_ne (by omega), gi_si_ne (by omega)]) d2
    have f5 : FXv σ2 σ5 := by rw [e5, e4]; exact FX_si (FX_si FX_rf (Or.inl (Or.inl (by decide)))) (Or.inl (Or.inl (by decide)))
    refine Rt_fs (gosC9 (c0 := 33) (by decide) sa h1 hj (by omega) h.2.1 s5 d5) (fun σ6 ⟨d6, f6⟩ => ?_)
    have v : (gi σ6 36 k).toInt = D_at (aMins (sAl k S) j D) k := d6.2.1 k (by omega)
    refine Rt_fl (fun v8 e8 => Rt_fl (fun v9 e9 => ?_))
    exact ih (k + 1) N v8 v9 _ σ6 (by omega) (by omega) (by rw [e8, i_sub (by omega) (by omega), h2, v]) (by omega) (by rw [e9, i_inc (by omega)]; omega) (HCl_v (FXv_tr f2 (FXv_tr f5 (FXn_v f6))) h)
theorem aloneC {n : Nat} {K : Int} {S : Stc} {D : Dyn} {σ : Sg} {a1 : Int32} (h : HCl n K S D σ) : Rt (F_X11_alone a1 σ) (fun r _ => r.toInt = r_alone n S D a1.toInt) := by
  have n6 := h.1.1
  have hK := h.2.2.1
  unfold F_X11_alone
  by_cases d0 : a1.toInt < 1
  · refine Rt_t (i_lt (show _ < (1 : Int) from d0)) ?_
    show (-100002 : Int32).toInt = r_alone n S D a1.toInt
    unfold r_alone; rw [if_neg (by omega)]; rfl
  refine Rt_f (i_nlt (show (1 : Int) ≤ _ by omega)) ?_
  by_cases d1 : a1.toInt ≤ 60
  · refine Rt_t (i_le (show _ ≤ (60 : Int) from d1)) ?_
    obtain ⟨j, hj⟩ : ∃ j : Nat, a1.toInt = (j : Int) := ⟨a1.toInt.toNat, by omega⟩
    have ev : r_alone n S D a1.toInt = aAln (fun m => D_at (aMins (sAl m S) j D) m) n 0 (tot n (aMins S j D)) := by
      unfold r_alone; rw [if_pos (by omega), hj, show ((j : Int)).toNat = j from by omega]
    rw [ev]
    refine Rt_fs (HCl_bec h) (fun σ3 ⟨s3, d3, f3⟩ => ?_)
    refine Rt_fs (gosC9 (c0 := 33) (by decide) h.1 hj (by omega) (by omega) h.2.1 s3 d3) (fun σ4 ⟨d4, f4⟩ => ?_)
    obtain ⟨r, e, v⟩ := allC n6 (CS_m (by decide) f4 s3).1 (aMins_b h.1 j D K h.2.1) d4
    refine Rt_fe e ?_
    have tb := tot_b n6 (aMins_b h.1 j D K h.2.1)
    exact alnLC hj (by omega) n 0 9 r (0 : Int32) _ σ4 (by omega) (by omega) v (by omega) rfl (HCl_v (FXv_tr f3 (FXn_v f4)) h)
  · refine Rt_f (i_nle (show (60 : Int) < _ by omega)) ?_
    show (-100002 : Int32).toInt = r_alone n S D a1.toInt
    unfold r_alone; rw [if_neg (by omega)]; rfl
/-! odds, mean -/
theorem lowLC {x0 x1 x2 : Int32} {σ : Sg} : ∀ (q : Nat) (N p r : Nat) (x3 x4 x5 : Int32), x3.toInt = (p : Int) → x4.toInt = (q : Int) → x5.toInt = (r : Int) → 2 * q + 2 ≤ N → q + r < 100 → 1 ≤ p → ∃ g : Int32, g.toInt = (Nat.gcd p q : Int) ∧ LF_X11_lowest N 0 x0 x1 x2 x3 x4 x5 σ = (lwV x0 x1 x2 g, σ) := by
  intro q
  induction q using Nat.strongRecOn with
  | ind q ih =>
    intro N p r x3 x4 x5 h3 h4 h5 hN hr hp
    obtain ⟨N, rfl⟩ : ∃ i, N = i + 2 := ⟨N - 2, by omega⟩
    have fin : ∀ (M : Nat), ∃ g : Int32, g.toInt = (p : Int) ∧ LF_X11_lowest (M + 1) 1 x0 x1 x2 x3 0 0 σ = (lwV x0 x1 x2 g, σ) := by
      intro M
      refine ⟨x3, h3, ?_⟩
      show LB_X11_lowest_39 (LF_X11_lowest M) x0 x1 x2 x3 σ = _
      unfold LB_X11_lowest_39 lwV
      rw [if_pos (i_le (show (1 : Int) ≤ _ by omega))]
      by_cases d : x2.toInt = 0
      · rw [if_pos (i_eq (show _ = (0 : Int) from d)), if_pos d]
      · rw [if_neg (i_ne (show _ ≠ (0 : Int) from d)), if_neg d]
    show ∃ g : Int32, _ ∧ LB_X11_lowest_8 (LF_X11_lowest (N + 1)) x0 x1 x2 x3 x4 x5 σ = _
    unfold LB_X11_lowest_8
    rw [if_neg (i_nle (show _ < (100 : Int) by omega))]
    by_cases c : q = 0
    · subst c
      rw [if_pos (i_le (show _ ≤ (0 : Int) by omega)), Nat.gcd_zero_right]
      exact fin N
    · have m : (x3 - x3 / x4 * x4).toInt = ((p % q : Nat) : Int) := by rw [i_rem (k := (q : Int)) (by omega) (by omega) h4, h3]; omega
      have lt := Nat.mod_lt p (show 0 < q by omega)
      rw [if_neg (i_nle (show (0 : Int) < _ by omega)), fl_e, fl_e, Nat.gcd_comm p q, Nat.gcd_rec q p, Nat.gcd_comm (p % q) q]
      exact ih (p % q) lt (N + 1) q (r + 1) x4 _ _ h4 m (by rw [i_inc (by omega)]; omega) (by omega) (by omega) (by omega)
theorem lowC {a b c : Int32} {p q : Nat} {σ : Sg} (ha : a.toInt = (p : Int)) (hb : b.toInt = (q : Int)) (h6 : q ≤ 6) (h1 : 1 ≤ q) (hp : p ≤ 100000) : ∃ g : Int32, g.toInt = (Nat.gcd p q : Int) ∧ F_X11_lowest a b c σ = (lwV a b c g, σ) := by
  unfold F_X11_lowest
  by_cases c0 : p ≤ 90
  · obtain ⟨g, g1, g2⟩ := lowLC (x0 := a) (x1 := b) (x2 := c) (σ := σ) p 200 q 0 b a (0 : Int32) hb ha rfl (by omega) (by omega) h1
    exact ⟨g, by rw [g1, Nat.gcd_comm], g2⟩
  · show ∃ g : Int32, _ ∧ LB_X11_lowest_8 (LF_X11_lowest 199) a b c b a (0 : Int32) σ = _
    unfold LB_X11_lowest_8
    have m : (b - b / a * a).toInt = ((q % p : Nat) : Int) := by rw [i_rem (k := (p : Int)) (by omega) (by omega) ha, hb]; omega
    have md : q % p = q := Nat.mod_eq_of_lt (by omega)
    rw [md] at m
    rw [if_neg (show ¬ (100 : Int32) ≤ (0 : Int32) by decide), if_neg (i_nle (show (0 : Int) < _ by omega)), fl_e, fl_e]
    obtain ⟨g, g1, g2⟩ := lowLC (x0 := a) (x1 := b) (x2 := c) (σ := σ) q 199 p 1 a _ ((0 : Int32) + 1) ha m rfl (by omega) (by omega) (by omega)
    exact ⟨g, g1, g2⟩
theorem meanC {n : Nat} {K : Int} {S : Stc} {D : Dyn} {σ : Sg} {a1 a2 : Int32} (h : HCl n K S D σ) : Rt (F_X11_mean a1 a2 σ) (fun r _ =>
    (∃ j : Nat, a1.toInt = (j : Int) ∧ (1 ≤ j ∧ j ≤ 60) ∧ (0 ≤ a2.toInt ∧ a2.toInt ≤ 1) ∧ n ≠ 0 ∧ ∃ u g : Int32, u.toInt = tot n (aMins S j D) ∧ g.toInt = (Nat.gcd (tot n (aMins S j D)).toNat n : Int) ∧ r = lwV u (nI n) a2 g)
      ∨ (¬ ((1 ≤ a1.toInt ∧ a1.toInt ≤ 60) ∧ (0 ≤ a2.toInt ∧ a2.toInt ≤ 1) ∧ n ≠ 0) ∧ r = (-9223372036854775808 : Int64))) := by
  obtain ⟨sb, db, hK, hrr, h99, cs, cd⟩ := id h
  have n6 := sb.1
  have hn := cs.1
  unfold F_X11_mean
  by_cases c0 : n = 0
  · exact Rt_t (i_eq (show _ = (0 : Int) by omega)) (Rt_p (Or.inr ⟨fun z => z.2.2 c0, rfl⟩))
  refine Rt_f (i_ne (show _ ≠ (0 : Int) by omega)) ?_
  by_cases d0 : a1.toInt < 1
  · exact Rt_t (i_lt (show _ < (1 : Int) from d0)) (Rt_p (Or.inr ⟨fun z => by omega, rfl⟩))
  refine Rt_f (i_nlt (show (1 : Int) ≤ _ by omega)) ?_
  by_cases d1 : 60 < a1.toInt
  · exact Rt_t (i_lt (show (60 : Int) < _ from d1)) (Rt_p (Or.inr ⟨fun z => by omega, rfl⟩))
  refine Rt_f (i_nlt (show _ ≤ (60 : Int) by omega)) ?_
  obtain ⟨j, hj⟩ : ∃ j : Nat, a1.toInt = (j : Int) := ⟨a1.toInt.toNat, by omega⟩
  have core : 0 ≤ a2.toInt ∧ a2.toInt ≤ 1 → Rt (LF_X11_mean 9 a1 a2 σ) (fun r _ =>
    (∃ j : Nat, a1.toInt = (j : Int) ∧ (1 ≤ j ∧ j ≤ 60) ∧ (0 ≤ a2.toInt ∧ a2.toInt ≤ 1) ∧ n ≠ 0 ∧ ∃ u g : Int32, u.toInt = tot n (aMins S j D) ∧ g.toInt = (Nat.gcd (tot n (aMins S j D)).toNat n : Int) ∧ r = lwV u (nI n) a2 g)
      ∨ (¬ ((1 ≤ a1.toInt ∧ a1.toInt ≤ 60) ∧ (0 ≤ a2.toInt ∧ a2.toInt ≤ 1) ∧ n ≠ 0) ∧ r = (-9223372036854775808 : Int64))) := by
    intro c
    show Rt (LB_X11_mean_34 (LF_X11_mean 8) a1 a2 σ) _
    unfold LB_X11_mean_34
    refine Rt_fs (HCl_bec h) (fun σ1 ⟨s1, d1, f1⟩ => ?_)
    refine Rt_fs (gosC9 (c0 := 33) (by decide) sb hj (by omega) (by omega) db s1 d1) (fun σ2 ⟨d2, f2⟩ => ?_)
    have b2 := aMins_b sb j D K db
    obtain ⟨u, e, v⟩ := allC n6 (CS_m (by decide) f2 s1).1 b2 d2
    refine Rt_fe e ?_
    have tb := tot_b n6 b2
    have e11 : gi σ2 1 1 = nI n := by
      rw [FXn_i f2 (by omega), FXv_i f1 (by omega)]
      exact i_eq (by rw [hn, nI_toInt (by omega)])
    have v : u.toInt = tot n (aMins S j D) := v
    obtain ⟨g, g1, g2⟩ := lowC (a := u) (b := gi σ2 1 1) (c := a2) (p := (tot n (aMins S j D)).toNat) (q := n) (σ := σ2) (by omega) (by rw [e11, nI_toInt (by omega)]) n6 (by omega) (by omega)
    exact Rt_fe g2 (Rt_p (Or.inl ⟨j, hj, by omega, c, c0, u, g, v, g1, by rw [e11]⟩))
  by_cases e0 : a2.toInt = 0
  · exact Rt_t (i_eq (show _ = (0 : Int) from e0)) (core (by omega))
  refine Rt_f (i_ne (show _ ≠ (0 : Int) from e0)) ?_
  by_cases e1 : a2.toInt = 1
  · exact Rt_t (i_eq (show _ = (1 : Int) from e1)) (core (by omega))
  refine Rt_f (i_ne (show _ ≠ (1 : Int) from e1)) (Rt_p (Or.inr ⟨fun z => by omega, rfl⟩))
theorem oddLC {n m j : Nat} {K : Int} {S : Stc} {D : Dyn} {x1 x2 x3 : Int32} (si0 : SInj S) (h1 : x1.toInt = (m : Int)) (hm : m < n) (h2 : x2.toInt = (j : Int)) (hj : j ≤ 60) : ∀ (i k N : Nat) (x4 x5 : Int32) (b : Nat) (σ : Sg), i + k = n → i < N → x4.toInt = (b : Int) → b ≤ k → x5.toInt = (k : Int) → HCl n K S D σ →
    Rt (LF_X11_odds N x1 x2 x3 x4 x5 σ) (fun r _ => ∃ u g : Int32, u.toInt = (aOd (fun o => aHel S j (aStp o 5 D) m) i k b : Int) ∧ g.toInt = (Nat.gcd (aOd (fun o => aHel S j (aStp o 5 D) m) i k b) n : Int) ∧ r = lwV u (nI n) x3 g) := by
  intro i
  induction i with
  | zero =>
    intro k N x4 x5 b σ hi hN h4 hb h5 h
    have hn := h.2.2.2.2.2.1.1
    have n6 := h.1.1
    obtain ⟨N, rfl⟩ : ∃ i, N = i + 1 := ⟨N - 1, by omega⟩
    show Rt (LB_X11_odds_38 (LF_X11_odds N) x1 x2 x3 x4 x5 σ) _
    unfold LB_X11_odds_38
    refine Rt_t (i_le (by omega)) ?_
    have e0 : gi σ 1 1 = nI n := i_eq (by rw [hn, nI_toInt (by omega)])
    obtain ⟨g, g1, g2⟩ := lowC (a := x4) (b := gi σ 1 1) (c := x3) (p := b) (q := n) (σ := σ) h4 (by rw [e0, nI_toInt (by omega)]) n6 (by omega) (by omega)
    exact Rt_fe g2 (Rt_p ⟨x4, g, h4, g1, by rw [e0]⟩)
  | succ i ih =>
    intro k N x4 x5 b σ hi hN h4 hb h5 h
    obtain ⟨sb, db, hK, hrr, h99, cs, cd⟩ := id h
    have hn := cs.1
    have n6 := sb.1
    obtain ⟨N, rfl⟩ : ∃ i, N = i + 1 := ⟨N - 1, by omega⟩
    have ex := cl_eq (x := x5) (by omega)
    have ex1 := cl_eq (x := x1) (by omega)
    have e1 : x1 = nI m := by rw [show m = x1.toNatClampNeg from by omega]; exact nI_ofI (by omega)
    show Rt (LB_X11_odds_38 (LF_X11_odds N) x1 x2 x3 x4 x5 σ) (fun r _ => ∃ u g : Int32, u.toInt = (aOd (fun o => aHel S j (aStp o 5 D) m) i (k + 1) (if 0 < aHel S j (aStp k 5 D) m then b + 1 else b) : Int) ∧ g.toInt = (Nat.gcd (aOd (fun o => aHel S j (aStp o 5 D) m) i (k + 1) (if 0 < aHel S j (aStp k 5 D) m then b + 1 else b)) n : Int) ∧ r = lwV u (nI n) x3 g)
    unfold LB_X11_odds_38
    refine Rt_f (i_nle (by omega)) ?_
    rw [show x5.toNatClampNeg = k from by omega]
    refine Rt_fs (HCl_bec h) (fun σ4 ⟨s4, d4, f4⟩ => ?_)
    refine Rt_fl (fun σ7 e7 => ?_)
    have s7 : CS 33 n S σ7 := by rw [e7]; exact CS_39 s4
    have d7 : CDy 33 n (aStp k 5 D) σ7 := by rw [e7]; exact stpC db (by omega) rfl (by decide) d4
    have f7 : FXv σ4 σ7 := by rw [e7]; exact FX_si FX_rf (Or.inl (Or.inl (by decide)))
    have db7 := aStp_b (r := 5) db (h99 k (by omega)) (by omega) (by decide)
    have H : Rt (F_X11_heldTimes x1 x2 σ7) (fun r σ' => r.toInt = aHel S j (aStp k 5 D) m ∧ FXv σ7 σ') := by
      unfold F_X11_heldTimes
      exact Rt_w (hlLC sb si0 hm e1 j 90 x2 (0 : Int32) (0 : Int32) 0 _ K σ7 (by rw [h2]; show _ = (0 : Int) + _; omega) (by omega) (by omega) (by decide) rfl (by decide) (by omega) db7 s7 d7) (fun r σ' q => ⟨q.1.trans (Int.zero_add _), q.2⟩)
    refine Rt_fb H (fun r9 σ8 ⟨t, f8⟩ => ?_)
    have fA : FXv σ σ8 := FXv_tr f4 (FXv_tr f7 f8)
    by_cases c : 0 < aHel S j (aStp k 5 D) m
    · rw [if_pos c]
      refine Rt_f (i_nle (show (0 : Int) < _ by omega)) ?_
      refine Rt_fl (fun v12 e12 => Rt_fl (fun v13 e13 => ?_))
      exact ih (k + 1) N v12 v13 (b + 1) σ8 (by omega) (by omega) (by rw [e12, i_inc (by omega)]; omega) (by omega) (by rw [e13, i_inc (by omega)]; omega) (HCl_v fA h)
    · rw [if_neg c]
      refine Rt_t (i_le (show _ ≤ (0 : Int) by omega)) ?_
      refine Rt_fl (fun v13 e13 => ?_)
      exact ih (k + 1) N x4 v13 b σ8 (by omega) (by omega) h4 (by omega) (by rw [e13, i_inc (by omega)]; omega) (HCl_v fA h)
theorem oddsC {n : Nat} {K : Int} {S : Stc} {D : Dyn} {σ : Sg} {a1 a2 a3 : Int32} (h : HCl n K S D σ) (si0 : SInj S) : Rt (F_X11_odds a1 a2 a3 σ) (fun r _ =>
    (∃ m j : Nat, a1.toInt = (m : Int) ∧ m < n ∧ a2.toInt = (j : Int) ∧ (1 ≤ j ∧ j ≤ 60) ∧ (0 ≤ a3.toInt ∧ a3.toInt ≤ 1) ∧ ∃ u g : Int32, u.toInt = (aOd (fun o => aHel S j (aStp o 5 D) m) n 0 0 : Int) ∧ g.toInt = (Nat.gcd (aOd (fun o => aHel S j (aStp o 5 D) m) n 0 0) n : Int) ∧ r = lwV u (nI n) a3 g)
      ∨ (¬ ((0 ≤ a1.toInt ∧ a1.toInt < (n : Int)) ∧ (1 ≤ a2.toInt ∧ a2.toInt ≤ 60) ∧ (0 ≤ a3.toInt ∧ a3.toInt ≤ 1)) ∧ r = (-9223372036854775808 : Int64))) := by
  have n6 := h.1.1
  have hn := h.2.2.2.2.2.1.1
  unfold F_X11_odds
  rw [isMC hn, fb_e]
  by_cases c1 : 0 ≤ a1.toInt ∧ a1.toInt < (n : Int)
  · rw [if_pos c1]
    refine Rt_f (by decide) ?_
    by_cases d0 : a2.toInt < 1
    · exact Rt_t (i_lt (show _ < (1 : Int) from d0)) (Rt_p (Or.inr ⟨fun z => by omega, rfl⟩))
    refine Rt_f (i_nlt (show (1 : Int) ≤ _ by omega)) ?_
    by_cases d1 : 60 < a2.toInt
    · exact Rt_t (i_lt (show (60 : Int) < _ from d1)) (Rt_p (Or.inr ⟨fun z => by omega, rfl⟩))
    refine Rt_f (i_nlt (show _ ≤ (60 : Int) by omega)) ?_
    obtain ⟨j, hj⟩ : ∃ j : Nat, a2.toInt = (j : Int) := ⟨a2.toInt.toNat, by omega⟩
    obtain ⟨m, hm⟩ : ∃ m : Nat, a1.toInt = (m : Int) := ⟨a1.toInt.toNat, by omega⟩
    have core : 0 ≤ a3.toInt ∧ a3.toInt ≤ 1 → Rt (LF_X11_odds 9 a1 a2 a3 (0 : Int32) (0 : Int32) σ) (fun r _ =>
      (∃ m j : Nat, a1.toInt = (m : Int) ∧ m < n ∧ a2.toInt = (j : Int) ∧ (1 ≤ j ∧ j ≤ 60) ∧ (0 ≤ a3.toInt ∧ a3.toInt ≤ 1) ∧ ∃ u g : Int32, u.toInt = (aOd (fun o => aHel S j (aStp o 5 D) m) n 0 0 : Int) ∧ g.toInt = (Nat.gcd (aOd (fun o => aHel S j (aStp o 5 D) m) n 0 0) n : Int) ∧ r = lwV u (nI n) a3 g)
      ∨ (¬ ((0 ≤ a1.toInt ∧ a1.toInt < (n : Int)) ∧ (1 ≤ a2.toInt ∧ a2.toInt ≤ 60) ∧ (0 ≤ a3.toInt ∧ a3.toInt ≤ 1)) ∧ r = (-9223372036854775808 : Int64))) := by
      intro c
      exact Rt_w (oddLC si0 hm (by omega) hj (by omega) n 0 9 (0 : Int32) (0 : Int32) 0 σ (by omega) (by omega) rfl (by omega) rfl h) (fun r σ' z => Or.inl ⟨m, j, hm, by omega, hj, by omega, c, z⟩)
    by_cases e0 : a3.toInt = 0
    · exact Rt_t (i_eq (show _ = (0 : Int) from e0)) (core (by omega))
    refine Rt_f (i_ne (show _ ≠ (0 : Int) from e0)) ?_
    by_cases e1 : a3.toInt = 1
    · exact Rt_t (i_eq (show _ = (1 : Int) from e1)) (core (by omega))
    refine Rt_f (i_ne (show _ ≠ (1 : Int) from e1)) (Rt_p (Or.inr ⟨fun z => by omega, rfl⟩))
  · rw [if_neg c1]
    exact Rt_t rfl (Rt_p (Or.inr ⟨fun z => c1 z.1, rfl⟩))
