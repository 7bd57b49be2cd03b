/-! of, told, judge: the same answers -/
noncomputable def r_of (S : Stc) (D : Dyn) (m p : Nat) (a : Int) : Int :=
  if a = 0 then S_kn S m else if a = 1 then S_vv S m else if a = 2 then D_at D m else if a = 3 then D_ed D m else if a = 4 then D_ti D m else if a = 5 then D_st D m else if a = 6 then (p : Int) else if a = 7 then aPc S D p else if a = 8 then aSt S D p else -1
theorem ofC {n m p : Nat} {K : Int} {S : Stc} {D : Dyn} {σ : Sg} {a1 a2 : Int32} (sb : SBd n S) (db : DBd n K D) (hr : S_r S = n) (cs : CS 1 n S σ) (cd : CDy 1 n D σ) (h1 : a1.toInt = (m : Int)) (hm : m < n) (hp : p < n) (hl : S_ln S p = m) (hj : ∀ j, j < p → S_ln S j ≠ m) : Rt (F_X11_of a1 a2 σ) (fun r _ => r.toInt = r_of S D m p a2.toInt) := by
  have n6 := sb.1
  have ex := cl_eq (x := a1) (by omega)
  have ep : a1.toNatClampNeg = m := by omega
  have a1N : a1 = nI m := by rw [← ep]; exact nI_ofI (by omega)
  have c1 := cs.1
  have c3 := cs.2.1
  have lnv : ∀ j, j < n → gi σ 3 j = nI (S_ln S j) := fun j hj => by
    have a : (gi σ 3 j).toInt = (S_ln S j : Int) := cs.2.2.1 j (by omega)
    have := sb.2.2.1 j (by omega)
    exact i_eq (by rw [a, nI_toInt (by omega)])
  have pl : F_X1_placeOf 1 a1 σ = (nI p, σ) := by
    unfold F_X1_placeOf
    rw [← nI_0]
    refine LF_xplaceOf (by omega) (by omega) (by rw [show gi σ (1 + 2) p = gi σ 3 p from rfl, lnv p hp, hl, a1N]) (fun j hj' => ?_) 9 0 (Nat.zero_le _) (by omega)
    rw [show gi σ (1 + 2) j = gi σ 3 j from rfl, lnv j (by omega), a1N]
    intro e
    have := congrArg Int32.toInt e
    have b := sb.2.2.1 j (by omega)
    rw [nI_toInt (by omega), nI_toInt (by omega)] at this
    exact hj j hj' (by omega)
  have pI : (nI p).toInt = (p : Int) := nI_toInt (by omega)
  obtain ⟨μ, κ, g1, k7, k2, kk, k3, k4, k5, k6⟩ := cs.2.2.2.1 m hm
  unfold F_X11_of r_of
  rw [F_isMower, fb_e, if_pos (show 0 ≤ a1.toInt ∧ a1.toInt < (gi σ 1 1).toInt by omega)]
  refine Rt_f (by decide) ?_
  rw [ep]
  by_cases e0 : a2.toInt = 0
  · refine Rt_t e0 (Rt_m (a := μ) (ci := cls κ) (z := 0) g1 kk ?_)
    rw [if_pos e0]
    exact (k4.trans k3.symm)
  refine Rt_f e0 ?_
  rw [if_neg e0]
  by_cases e1 : a2.toInt = 1
  · refine Rt_t e1 (Rt_m (a := μ) (ci := cls κ) (z := 0) g1 kk ?_)
    rw [if_pos e1]
    exact k6
  refine Rt_f e1 ?_
  rw [if_neg e1]
  by_cases e2 : a2.toInt = 2
  · refine Rt_t e2 ?_
    rw [if_pos e2]
    exact cd.2.1 m hm
  refine Rt_f e2 ?_
  rw [if_neg e2]
  by_cases e3 : a2.toInt = 3
  · refine Rt_t e3 ?_
    rw [if_pos e3]
    exact cd.2.2.1 m hm
  refine Rt_f e3 ?_
  rw [if_neg e3]
  by_cases e4 : a2.toInt = 4
  · refine Rt_t e4 ?_
    rw [if_pos e4]
    exact cd.2.2.2.1 m hm
  refine Rt_f e4 ?_
  rw [if_neg e4]
  by_cases e5 : a2.toInt = 5
  · refine Rt_t e5 ?_
    rw [if_pos e5]
    exact cd.2.2.2.2 m hm
  refine Rt_f e5 ?_
  rw [if_neg e5]
  by_cases e6 : a2.toInt = 6
  · refine Rt_t e6 (Rt_fe pl ?_)
    rw [if_pos e6]
    exact pI
  refine Rt_f e6 ?_
  rw [if_neg e6]
  by_cases e7 : a2.toInt = 7
  · refine Rt_t e7 (Rt_fe pl (Rt_fb (pacC (c0 := 1) (by decide) sb db cs cd pI (by omega)) (fun r s h => ?_)))
    rw [if_pos e7]
    exact h.1
  refine Rt_f e7 ?_
  rw [if_neg e7]
  by_cases e8 : a2.toInt = 8
  · refine Rt_t e8 (Rt_fe pl (Rt_fb (strAtC (c0 := 1) (by decide) sb db cs cd pI (by omega)) (fun r s h => ?_)))
    rw [if_pos e8]
    exact h.1
  refine Rt_f e8 ?_
  rw [if_neg e8]
  exact (rfl : (-1 : Int32).toInt = -1)
theorem ofM {n m p : Nat} {K : Int} {S : Stc} {D : Dyn} {σ : Sg} {a1 a2 : Int32} (hm9 : HMo n K S D σ) (h1 : a1.toInt = (m : Int)) (hm : m < n) (hp : p < n) (hl : S_ln S p = m) (hj : ∀ j, j < p → S_ln S j ≠ m) : Rt (F_X12_of a1 a2 σ) (fun r _ => r.toInt = r_of S D m p a2.toInt) := by
  obtain ⟨sb, db, hK, hr, h99, ms, md⟩ := hm9
  have n6 := sb.1
  have ex := cl_eq (x := a1) (by omega)
  have ep : a1.toNatClampNeg = m := by omega
  have a1N : a1 = nI m := by rw [← ep]; exact nI_ofI (by omega)
  have lnv : ∀ j, j < n → gi σ 110 j = nI (S_ln S j) := fun j hj => by
    have a : (gi σ 110 j).toInt = (S_ln S j : Int) := ms.2.2.1 j (by omega)
    have := sb.2.2.1 j (by omega)
    exact i_eq (by rw [a, nI_toInt (by omega)])
  have pl : F_X12_placeOf a1 σ = (nI p, σ) := by
    unfold F_X12_placeOf
    rw [← nI_0]
    refine LF_mplaceOf (by omega) (by rw [lnv p hp, hl, a1N]) (fun j hj' => ?_) 9 0 (Nat.zero_le _) (by omega)
    rw [lnv j (by omega), a1N]
    intro e
    have := congrArg Int32.toInt e
    have b := sb.2.2.1 j (by omega)
    rw [nI_toInt (by omega), nI_toInt (by omega)] at this
    exact hj j hj' (by omega)
  have pI : (nI p).toInt = (p : Int) := nI_toInt (by omega)
  unfold F_X12_of r_of
  rw [F_mIs ms.1 n6, fb_e, if_pos (show 0 ≤ a1.toInt ∧ a1.toInt < (n : Int) by omega)]
  refine Rt_f (by decide) ?_
  rw [ep]
  by_cases e0 : a2.toInt = 0
  · refine Rt_t e0 ?_
    rw [if_pos e0]
    exact ms.2.2.2.1 m hm
  refine Rt_f e0 ?_
  rw [if_neg e0]
  by_cases e1 : a2.toInt = 1
  · refine Rt_t e1 ?_
    rw [if_pos e1]
    exact ms.2.2.2.2.1 m hm
  refine Rt_f e1 ?_
  rw [if_neg e1]
  by_cases e2 : a2.toInt = 2
  · refine Rt_t e2 ?_
    rw [if_pos e2]
    exact md.2.1 m hm
  refine Rt_f e2 ?_
  rw [if_neg e2]
  by_cases e3 : a2.toInt = 3
  · refine Rt_t e3 ?_
    rw [if_pos e3]
    exact md.2.2.1 m hm
  refine Rt_f e3 ?_
  rw [if_neg e3]
  by_cases e4 : a2.toInt = 4
  · refine Rt_t e4 ?_
    rw [if_pos e4]
    exact md.2.2.2.1 m hm
  refine Rt_f e4 ?_
  rw [if_neg e4]
  by_cases e5 : a2.toInt = 5
  · refine Rt_t e5 ?_
    rw [if_pos e5]
    exact md.2.2.2.2 m hm
  refine Rt_f e5 ?_
  rw [if_neg e5]
  by_cases e6 : a2.toInt = 6
  · refine Rt_t e6 (Rt_fe pl ?_)
    rw [if_pos e6]
    exact pI
  refine Rt_f e6 ?_
  rw [if_neg e6]
  by_cases e7 : a2.toInt = 7
  · refine Rt_t e7 (Rt_fe pl (Rt_fb (pacM sb db ms.2 md pI (by omega)) (fun r s h => ?_)))
    rw [if_pos e7]
    exact h.1
  refine Rt_f e7 ?_
  rw [if_neg e7]
  by_cases e8 : a2.toInt = 8
  · refine Rt_t e8 (Rt_fe pl (Rt_fb (strAtM sb db ms.2 md pI (by omega)) (fun r s h => ?_)))
    rw [if_pos e8]
    exact h.1
  refine Rt_f e8 ?_
  rw [if_neg e8]
  exact (rfl : (-1 : Int32).toInt = -1)
theorem OF_eq {V : Vx} {a1 a2 r1 r2 : Int32} {σ σ1 σ2 : Sg} (q : RELF σ) (mn : MN σ) (hI : INV V σ) (f : MA σ σ1) (h1 : F_X11_of a1 a2 σ = (r1, σ1)) (h2 : F_X12_of a1 a2 σ1 = (r2, σ2)) : r1 = r2 := by
  obtain ⟨n, S, D, hn, hm, cs, cd, hln, -⟩ := HX q mn hI
  have hm1 := HMo_ma f hm
  have n6 := hm.1.1
  by_cases c : 0 ≤ a1.toInt ∧ a1.toInt < (n : Int)
  · have hc := q.1.1.1
    obtain ⟨k0, hk0, hk1⟩ := hI.2.2.2.2.1 a1.toNatClampNeg (by have := cl_eq (x := a1) c.1; omega)
    have ex := cl_eq (x := a1) c.1
    have hl0 : S_ln S k0 = a1.toNatClampNeg := by rw [hln k0 (by omega), hk1]; exact nI_clamp (by omega)
    obtain ⟨p, hp1, hp2, hp3⟩ := least_of (P := fun j => S_ln S j = a1.toNatClampNeg) (k0 + 1) k0 (by omega) hl0
    have A := Rt_of (ofC (a2 := a2) hm.1 hm.2.1 hm.2.2.2.1 cs cd ex.symm (by omega) (p := p) (by omega) hp2 hp3) h1
    have B := Rt_of (ofM (a2 := a2) hm1 ex.symm (by omega) (p := p) (by omega) hp2 hp3) h2
    exact i_eq (A.trans B.symm)
  · unfold F_X11_of at h1
    unfold F_X12_of at h2
    rw [F_isMower, fb_e, if_neg (show ¬ (0 ≤ a1.toInt ∧ a1.toInt < (gi σ 1 1).toInt) by omega), if_pos rfl] at h1
    rw [F_mIs hm1.2.2.2.2.2.1.1 n6, fb_e, if_neg c, if_pos rfl] at h2
    rw [← (Prod.mk.inj h1).1, ← (Prod.mk.inj h2).1]
/-! told -/
theorem TOLD_eq {V : Vx} {a1 r1 r2 : Int32} {σ σ1 σ2 : Sg} (q : RELF σ) (mn : MN σ) (hI : INV V σ) (f : FX (fun _ => False) (fun _ _ => False) σ σ1) (h1 : F_X11_told a1 σ = (r1, σ1)) (h2 : F_X12_told a1 σ1 = (r2, σ2)) : r1 = r2 := by
  obtain ⟨n, S, D, hn, hm, cs, cd, -⟩ := HX q mn hI
  have e := FX_nil f
  subst e
  obtain ⟨sb, db, hK, hr, h99, ms, md⟩ := hm
  have n6 := sb.1
  have hc := q.1.1.1
  have rl := q.1.2.2.2.1
  obtain ⟨c1, c2, c3, c4, c5, ⟨fd, g10, hf, fa⟩, c7, c8⟩ := cs
  have m11' : (gi σ 1 11).toInt = -1 := by rw [mn.2.2.2.2.2.2.1]; rfl
  have sg : S_gp S = (lastW 2 2 (S_cl S) : Int) := by
    rcases c8 with ⟨a, -⟩ | ⟨-, b⟩
    · omega
    · exact b
  have z0 : (0 : Int32).toInt = 0 := rfl
  have z1 : (1 : Int32).toInt = 1 := rfl
  have z2 : (2 : Int32).toInt = 2 := rfl
  have z3 : (3 : Int32).toInt = 3 := rfl
  have z10 : (10 : Int32).toInt = 10 := rfl
  have e9 : ((9 : Int32) + gi σ 74 0).toInt = 9 + (n : Int) := by rw [i_addl (k := 9) rfl (by omega) (by omega)]; omega
  unfold F_X11_told at h1
  unfold F_X12_told at h2
  rw [F_in, fb_e, e9] at h2
  rw [g10] at h1
  by_cases q0 : a1.toInt = 0
  · rw [if_pos q0] at h1
    rw [if_neg (show ¬ ((10 : Int32).toInt ≤ a1.toInt ∧ a1.toInt ≤ 9 + (n : Int)) by omega), if_pos rfl, if_pos q0] at h2
    rw [← (Prod.mk.inj h1).1, ← (Prod.mk.inj h2).1]
    exact i_eq (by rw [cd.1, md.1])
  rw [if_neg q0] at h1
  by_cases q1 : a1.toInt = 1
  · rw [if_pos q1] at h1
    obtain ⟨g, l1, l2⟩ := gapM sb ms.2
    rw [if_neg (show ¬ ((10 : Int32).toInt ≤ a1.toInt ∧ a1.toInt ≤ 9 + (n : Int)) by omega), if_pos rfl, if_neg q0, if_pos q1, l1, fb_e] at h2
    have h1 : (gi σ fd 0, σ) = (r1, σ) := h1
    rw [← (Prod.mk.inj h1).1, ← (Prod.mk.inj h2).1]
    exact i_eq (by rw [l2, sg, fa.2.1.1])
  rw [if_neg q1] at h1
  by_cases q2 : a1.toInt = 2
  · rw [if_pos q2] at h1
    obtain ⟨g, l1, l2⟩ := lastM (w := 3) (d := 1) (x1 := (3 : Int32)) (x2 := (1 : Int32)) sb.2.2.2.2.2.2.2.2.1 sb.2.2.2.2.2.2.2.2.2 rfl rfl ms.2.2.2.2.2.2.1
    rw [if_neg (show ¬ ((10 : Int32).toInt ≤ a1.toInt ∧ a1.toInt ≤ 9 + (n : Int)) by omega), if_pos rfl, if_neg q0, if_neg q1, if_pos q2, l1, fb_e] at h2
    have h1 : (gi σ fd 1, σ) = (r1, σ) := h1
    rw [← (Prod.mk.inj h1).1, ← (Prod.mk.inj h2).1]
    exact i_eq (by rw [l2, fa.2.1.2.1])
  rw [if_neg q2] at h1
  by_cases q3 : a1.toInt = 3
  · rw [if_pos q3] at h1
    obtain ⟨g, l1, l2⟩ := lngM sb ms
    rw [if_neg (show ¬ ((10 : Int32).toInt ≤ a1.toInt ∧ a1.toInt ≤ 9 + (n : Int)) by omega), if_pos rfl, if_neg q0, if_neg q1, if_neg q2, if_pos q3, l1, fb_e] at h2
    have h1 : (gi σ fd 2, σ) = (r1, σ) := h1
    rw [← (Prod.mk.inj h1).1, ← (Prod.mk.inj h2).1]
    exact i_eq (by rw [l2, fa.2.1.2.2]; rfl)
  rw [if_neg q3] at h1
  by_cases c : 10 ≤ a1.toInt ∧ a1.toInt ≤ 9 + (n : Int)
  · have x1 : (a1 - (10 : Int32)).toInt = a1.toInt - 10 := by rw [i_sub (y := (10 : Int32)) (by show (_ : Int) ≤ _ - 10; omega) (by show _ - 10 ≤ (_ : Int); omega)]; rfl
    have ex := cl_eq (x := a1 - (10 : Int32)) (by omega)
    rw [if_neg (show ¬ a1 < (10 : Int32) from i_nlt (show (10 : Int) ≤ a1.toInt from c.1)), if_neg (i_nle (by omega))] at h1
    rw [if_pos (show (10 : Int32).toInt ≤ a1.toInt ∧ a1.toInt ≤ 9 + (n : Int) from c), if_neg (show ¬ (1 : Int32) = 0 by decide)] at h2
    rw [← (Prod.mk.inj h1).1, ← (Prod.mk.inj h2).1]
    exact rl _ (by omega)
  · rw [if_neg (show ¬ ((10 : Int32).toInt ≤ a1.toInt ∧ a1.toInt ≤ 9 + (n : Int)) from c), if_pos rfl, if_neg q0, if_neg q1, if_neg q2, if_neg q3] at h2
    rw [← (Prod.mk.inj h2).1]
    by_cases d : a1.toInt < 10
    · rw [if_pos (i_lt (show _ < (10 : Int) from d))] at h1
      rw [← (Prod.mk.inj h1).1]
    · have x1 : (a1 - (10 : Int32)).toInt = a1.toInt - 10 := by
        have := Int32.toInt_lt a1
        rw [i_sub (y := (10 : Int32)) (by show (_ : Int) ≤ _ - 10; omega) (by show _ - 10 ≤ (_ : Int); omega)]; rfl
      rw [if_neg (i_nlt (show (10 : Int) ≤ _ by omega)), if_pos (i_le (by omega))] at h1
      rw [← (Prod.mk.inj h1).1]
/-! judge -/
theorem jdgL {n t : Nat} {σ : Sg} {a1 a2 : Int32} (ht : t < 6) (h1 : a1.toInt = (t : Int)) (n6 : n ≤ 6) (c1 : (gi σ 1 1).toInt = (n : Int)) (m0 : (gi σ 74 0).toInt = (n : Int)) (tp : TAP σ) (lb : 0 ≤ (gi σ 172 t).toInt ∧ (gi σ 172 t).toInt ≤ 60) (ea : ∀ m, m < n → gi σ 4 m = gi σ 105 m) : ∀ (k p N N' : Nat) (x : Int32), p + k = n → k < N → k < N' → x.toInt = (p : Int) →
    ∃ r, LF_X11_judge N a2 (52 + 2 * t) x σ = (r, σ) ∧ LF_X12_judge N' a1 a2 x σ = (r, σ) := by
  obtain ⟨t1, t2, t3, t4⟩ := tp t ht
  have e1 := cl_eq (x := a1) (by omega)
  have et : a1.toNatClampNeg = t := by omega
  intro k
  induction k with
  | zero =>
    intro p N N' x hp hN hN' hx
    obtain ⟨N, rfl⟩ : ∃ i, N = i + 1 := ⟨N - 1, by omega⟩
    obtain ⟨N', rfl⟩ : ∃ i, N' = i + 1 := ⟨N' - 1, by omega⟩
    show ∃ r, LB_X11_judge_37 (LF_X11_judge N) a2 (52 + 2 * t) x σ = (r, σ) ∧ LB_X12_judge_34 (LF_X12_judge N') a1 a2 x σ = (r, σ)
    unfold LB_X11_judge_37 LB_X12_judge_34
    rw [if_pos (i_le (by omega)), if_pos (i_le (by omega))]
    exact ⟨_, rfl, rfl⟩
  | succ k ih =>
    intro p N N' x hp hN hN' hx
    obtain ⟨N, rfl⟩ : ∃ i, N = i + 1 := ⟨N - 1, by omega⟩
    obtain ⟨N', rfl⟩ : ∃ i, N' = i + 1 := ⟨N' - 1, by omega⟩
    have ex := cl_eq (x := x) (by omega)
    have ep : x.toNatClampNeg = p := by omega
    show ∃ r, LB_X11_judge_37 (LF_X11_judge N) a2 (52 + 2 * t) x σ = (r, σ) ∧ LB_X12_judge_34 (LF_X12_judge N') a1 a2 x σ = (r, σ)
    unfold LB_X11_judge_37 LB_X12_judge_34
    have lm : ((gi σ 172 t - x) - (1 : Int32)).toInt = (gi σ 172 t).toInt - (p : Int) - 1 := by
      have a : (gi σ 172 t - x).toInt = (gi σ 172 t).toInt - (p : Int) := by rw [i_sub (by omega) (by omega), hx]
      rw [i_sub (y := (1 : Int32)) (by show (_ : Int) ≤ _ - 1; omega) (by show _ - 1 ≤ (_ : Int); omega), a]; rfl
    rw [if_neg (i_nle (by omega)), if_neg (i_nle (by omega)), F_has, fb_e, et, t2, ep]
    by_cases b1 : 0 ≤ a2.toInt ∧ a2.toInt < (gi σ 172 t).toInt
    · have xa : (a2 + x).toInt = a2.toInt + (p : Int) := by rw [i_add (by omega) (by omega), hx]
      have nn : ¬ (gi σ 171 t).toInt < 0 := fun z => by have := t3 z; omega
      rw [if_pos b1, if_neg (show ¬ (1 : Int32) = 0 by decide), F_has, fb_e, t2, xa, if_neg (i_nlt0 (by omega)), if_neg (i_nlt0 b1.1)]
      by_cases b2 : a2.toInt + (p : Int) < (gi σ 172 t).toInt
      · have exa := cl_eq (x := a2 + x) (by omega)
        have ex2 := cl_eq (x := a2) b1.1
        have m60 : ((60 : Int32) * a1).toInt = 60 * a1.toInt := i_mull rfl (by omega) (by omega)
        have mm : (((60 : Int32) * a1) + a2).toInt = 60 * (t : Int) + a2.toInt := by rw [i_add (by omega) (by omega), m60, h1]
        have m3 : ((((60 : Int32) * a1) + a2) + x).toInt = 60 * (t : Int) + a2.toInt + (p : Int) := by rw [i_add (by omega) (by omega), mm, hx]
        have ex3 := cl_eq (x := (((60 : Int32) * a1) + a2) + x) (by omega)
        rw [if_pos (show 0 ≤ a2.toInt + (p : Int) ∧ a2.toInt + (p : Int) < (gi σ 172 t).toInt by omega), if_neg (show ¬ (1 : Int32) = 0 by decide), if_pos (i_le (by omega)), show (a2 + x).toNatClampNeg = a2.toNatClampNeg + p from by omega, show ((((60 : Int32) * a1) + a2) + x).toNatClampNeg = 60 * t + (a2.toNatClampNeg + p) from by omega, t4 _ (by omega), ea p (by omega)]
        by_cases d : lg_cmp (gl σ 173 (60 * t + (a2.toNatClampNeg + p))) (gi σ 105 p).toInt64 = 0
        · rw [if_pos d, if_pos d, fl_e, fl_e]
          exact ih (p + 1) N N' _ (by omega) (by omega) (by omega) (by rw [i_inc (by omega)]; omega)
        · rw [if_neg d, if_neg d]; exact ⟨_, rfl, rfl⟩
      · rw [if_neg (show ¬ (0 ≤ a2.toInt + (p : Int) ∧ a2.toInt + (p : Int) < (gi σ 172 t).toInt) by omega), if_pos rfl, if_neg (i_nle (by omega))]
        exact ⟨_, rfl, rfl⟩
    · rw [if_neg b1, if_pos rfl]
      refine ⟨(100 : Int32) + x, rfl, ?_⟩
      by_cases d : (gi σ 171 t).toInt < 0
      · rw [if_pos (i_lt0 d)]
      rw [if_neg (i_nlt0 (by omega))]
      by_cases d2 : a2.toInt < 0
      · rw [if_pos (i_lt0 d2)]
      rw [if_neg (i_nlt0 (by omega)), if_neg (i_nle (by omega))]
theorem JDG_eq {V : Vx} {a1 a2 r1 r2 : Int32} {σ σ1 σ2 : Sg} (q : REL σ) (mn : MN σ) (hI : INV V σ) (f : FX (fun _ => False) (fun _ _ => False) σ σ1) (h1 : F_X11_judge a1 a2 σ = (r1, σ1)) (h2 : F_X12_judge a1 a2 σ1 = (r2, σ2)) : r1 = r2 := by
  have e := FX_nil f
  subst e
  have hc := q.1.1
  have hm := MI_f0 hI.2.1
  have tb := TAP_b hI.1.1
  obtain ⟨n, hn⟩ : ∃ n : Nat, (gi σ 1 1).toInt = (n : Int) := ⟨(gi σ 1 1).toInt.toNat, by omega⟩
  have ea : ∀ m, m < n → gi σ 4 m = gi σ 105 m := fun m h => ((mn.2.2.1 m (by omega)).1 (by omega)).1
  unfold F_X11_judge at h1
  unfold F_X12_judge at h2
  rw [F_isTape, fb_e] at h1
  rw [F_misTape, fb_e] at h2
  by_cases c : 0 ≤ a1.toInt ∧ a1.toInt ≤ 5
  · have e1 := cl_eq (x := a1) c.1
    obtain ⟨t, et⟩ : ∃ t, t = a1.toNatClampNeg := ⟨_, rfl⟩
    obtain ⟨t1, t2, t3, t4⟩ := q.2.1 t (by omega)
    have lb := tb t (by omega)
    rw [t2] at lb
    obtain ⟨r, j1, j2⟩ := jdgL (a1 := a1) (a2 := a2) (show t < 6 by omega) (by omega) (by omega) hn (by omega) q.2.1 lb ea n 0 9 20 (0 : Int32) (by omega) (by omega) (by omega) rfl
    rw [if_pos c, if_neg (show ¬ (1 : Int32) = 0 by decide), F_isEmpty, fb_e, ← et, t1, j1] at h1
    rw [if_pos c, if_neg (show ¬ (1 : Int32) = 0 by decide), ← et, j2] at h2
    by_cases d : (gi σ 171 t).toInt < 0
    · rw [if_pos d, if_neg (show ¬ (1 : Int32) = 0 by decide)] at h1
      rw [if_pos (i_lt0 d)] at h2
      rw [← (Prod.mk.inj h1).1, ← (Prod.mk.inj h2).1]
    · rw [if_neg d, if_pos rfl] at h1
      rw [if_neg (i_nlt0 (by omega))] at h2
      by_cases d1 : (gi σ 171 t) = (1 : Int32)
      · rw [if_pos d1] at h1 h2
        rw [← (Prod.mk.inj h1).1, ← (Prod.mk.inj h2).1]
      · rw [if_neg d1] at h1 h2
        rw [← (Prod.mk.inj h1).1, ← (Prod.mk.inj h2).1]
  · rw [if_neg c, if_pos rfl] at h1
    rw [if_neg c, if_pos rfl] at h2
    rw [← (Prod.mk.inj h1).1, ← (Prod.mk.inj h2).1]
