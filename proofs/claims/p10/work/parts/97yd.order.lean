/-! who and order leave the minutes' numbers as they were -/
theorem isnZ {n m : Nat} {K : Int} {S : Stc} {D : Dyn} {σ : Sg} {x y : Int32} (h : HMo n K S D σ) (hx : x.toInt = (m : Int)) (hm : m < n) (ht : 0 ≤ (gi σ 143 y.toNatClampNeg).toInt ∧ (gi σ 143 y.toNatClampNeg).toInt ≤ 30) : Rt (F_X12_isSeen x y σ) (fun _ σ' => FXz σ σ') := by
  obtain ⟨sb, db, hK, hrr, h99, hs, hd⟩ := id h
  have n6 := sb.1
  have ex := cl_eq (x := x) (by omega)
  unfold F_X12_isSeen
  rw [show x.toNatClampNeg = m from by omega]
  refine Rt_fs (savM n6 hs hd) (fun σ1 ⟨k1, s1, d1, _, z1⟩ => ?_)
  refine Rt_fl (fun σ4 e4 => ?_)
  have k4 : KP σ σ4 := by rw [e4]; exact KP_si (by omega) k1
  have s4 : MS n S σ4 := by rw [e4]; exact MS_si (by omega) s1
  have d4 : MDy n (aStp m 3 D) σ4 := by rw [e4]; exact stpM db hm rfl (by decide) d1
  have db4 := aStp_b (r := 3) db (h99 m hm) hm (by decide)
  obtain ⟨j, hj⟩ : ∃ j : Nat, (gi σ4 143 y.toNatClampNeg).toInt = (j : Int) := by
    rw [e4, gi_si_ne (Or.inl (by decide)), FXz_i z1 (by omega)]
    exact ⟨(gi σ 143 y.toNatClampNeg).toInt.toNat, by omega⟩
  have hj30 : (j : Int) ≤ 30 := by
    rw [← hj, e4, gi_si_ne (Or.inl (by decide)), FXz_i z1 (by omega)]; exact ht.2
  refine Rt_fs (gosM9 sb hj (by omega) (by omega) db4 s4.2 d4) (fun σ6 ⟨_, f6, _⟩ => ?_)
  have k6 := KP_q n6 k4 f6
  by_cases c : (gi σ6 105 (gi σ6 142 y.toNatClampNeg).toNatClampNeg) = (gi σ6 144 y.toNatClampNeg)
  · exact Rt_t c (Rt_fs (putM k6) (fun σ7 z => Rt_p z))
  · exact Rt_f c (Rt_fs (putM k6) (fun σ7 z => Rt_p z))
theorem whoLZ {n : Nat} {K : Int} {S : Stc} {D : Dyn} {s : Nat} (hs6 : s ≤ 6) : ∀ (N b : Nat) (x1 x2 x3 x4 : Int32) (σ : Sg), HMo n K S D σ → (gi σ 74 41).toInt = (s : Int) → (∀ k, k < 6 → 0 ≤ (gi σ 143 k).toInt ∧ (gi σ 143 k).toInt ≤ 30) → 0 ≤ x2.toInt → (b ≠ 0 → x2.toInt < (n : Int)) → (b = 0 → x2.toInt ≤ (n : Int)) → 0 ≤ x4.toInt →
    Rt (LF_X12_who N b x1 x2 x3 x4 σ) (fun _ σ' => FXz σ σ') := by
  intro N
  induction N with
  | zero => intro b x1 x2 x3 x4 σ _ _ _ _ _ _ _; exact FXz_rf
  | succ N ih =>
    intro b x1 x2 x3 x4 σ h h41 ht h2 h3 h3' h4
    have hn := h.2.2.2.2.2.1.1
    have n6 := h.1.1
    have z0 : (0 : Int32).toInt = 0 := rfl
    rcases b with _ | _ | _ | b
    · show Rt (LB_X12_who_4 (LF_X12_who N) x1 x2 σ) _
      unfold LB_X12_who_4
      by_cases c : (gi σ 74 0) ≤ x2
      · exact Rt_t c (Rt_p FXz_rf)
      · have c' : ¬ (gi σ 74 0).toInt ≤ x2.toInt := fun z => c (i_le z)
        exact Rt_f c (ih 1 x1 x2 (1 : Int32) (0 : Int32) σ h h41 ht h2 (fun _ => by omega) (fun z => absurd z (by decide)) (by omega))
    · have h3 := h3 (by decide)
      show Rt (LB_X12_who_17 (LF_X12_who N) x1 x2 x3 x4 σ) _
      unfold LB_X12_who_17
      by_cases c : (gi σ 74 41) ≤ x4
      · exact Rt_t c (ih 2 x1 x2 x3 0 σ h h41 ht h2 (fun _ => h3) (fun z => absurd z (by decide)) (by omega))
      · have c' : ¬ (gi σ 74 41).toInt ≤ x4.toInt := fun z => c (i_le z)
        have ex := cl_eq (x := x4) (by omega)
        refine Rt_f c ?_
        by_cases d : x3 = 0
        · exact Rt_t d (ih 2 x1 x2 x3 0 σ h h41 ht h2 (fun _ => h3) (fun z => absurd z (by decide)) (by omega))
        · refine Rt_f d ?_
          refine Rt_fb (isnZ (m := x2.toInt.toNat) h (by omega) (by omega) (ht x4.toNatClampNeg (by omega))) (fun r4 σ3 z => ?_)
          refine Rt_fl (fun v5 e5 => ?_)
          exact Rt_w (ih 1 x1 x2 r4 v5 σ3 (HMo_z z h) (by rw [FXz_i z (by omega)]; exact h41) (fun k hk => by rw [FXz_i z (by omega)]; exact ht k hk) h2 (fun _ => h3) (fun z => absurd z (by decide)) (by rw [e5, i_inc (by omega)]; omega)) (fun _ σ' q => FXz_tr z q)
    · have h3 := h3 (by decide)
      show Rt (LB_X12_who_44 (LF_X12_who N) x1 x2 x3 σ) _
      unfold LB_X12_who_44
      by_cases d : x3 = 0
      · exact Rt_t d (Rt_fl (fun v2 _ => Rt_fl (fun v3 e3 => ih 0 v2 v3 0 0 σ h h41 ht (by rw [e3, i_inc (by omega)]; omega) (fun z => absurd rfl z) (fun _ => by rw [e3, i_inc (by omega)]; omega) (by omega))))
      · exact Rt_f d (Rt_fl (fun v2 _ => Rt_fl (fun v3 e3 => ih 0 v2 v3 0 0 σ h h41 ht (by rw [e3, i_inc (by omega)]; omega) (fun z => absurd rfl z) (fun _ => by rw [e3, i_inc (by omega)]; omega) (by omega))))
    · exact FXz_rf
theorem whoZ {n : Nat} {K : Int} {S : Stc} {D : Dyn} {σ : Sg} (h : HMo n K S D σ) (h41 : 0 ≤ (gi σ 74 41).toInt ∧ (gi σ 74 41).toInt ≤ 6) (ht : ∀ k, k < 6 → 0 ≤ (gi σ 143 k).toInt ∧ (gi σ 143 k).toInt ≤ 30) : Rt (F_X12_who σ) (fun _ σ' => FXz σ σ') := by
  unfold F_X12_who
  have z0 : (0 : Int32).toInt = 0 := rfl
  exact whoLZ (s := (gi σ 74 41).toInt.toNat) (by omega) 2000 0 (0 : Int32) (0 : Int32) 0 0 σ h (by omega) ht (by omega) (fun z => absurd rfl z) (fun _ => by omega) (by omega)
/-! order -/
noncomputable def RWS (σ0 σ : Sg) : Prop := ∀ id k, 105 ≤ id → id ≤ 108 → k < 6 → gi σ id k = gi σ0 id k
theorem RWS_rf {σ : Sg} : RWS σ σ := fun _ _ _ _ _ => rfl
theorem RWS_tr {σ σ1 σ2 : Sg} (f : RWS σ σ1) (g : RWS σ1 σ2) : RWS σ σ2 := fun id k a b c => (g id k a b c).trans (f id k a b c)
theorem RWS_si {σ0 σ : Sg} {a k : Nat} {v : Int32} (h : RWS σ0 σ) (ha : a < 105 ∨ 108 < a) : RWS σ0 (si σ a k v) := fun id j x y z => by rw [gi_si_ne (Or.inl (by omega))]; exact h id j x y z
theorem RWS_fr {S F : List Nat} {σ0 σ σ1 : Sg} (h : RWS σ0 σ) (f : Fr S F σ σ1) (hS : 105 ∉ S ∧ 106 ∉ S ∧ 107 ∉ S ∧ 108 ∉ S) : RWS σ0 σ1 := fun id k a b c => by
  have e : gi σ1 id k = gi σ id k := by
    rcases (show id = 105 ∨ id = 106 ∨ id = 107 ∨ id = 108 by omega) with rfl | rfl | rfl | rfl
    · exact congrFun (f.1 _ hS.1).1 k
    · exact congrFun (f.1 _ hS.2.1).1 k
    · exact congrFun (f.1 _ hS.2.2.1).1 k
    · exact congrFun (f.1 _ hS.2.2.2).1 k
  rw [e]; exact h id k a b c
noncomputable def MBx (σ : Sg) : Prop := BNW σ ∧ gi σ 74 28 = (-1 : Int32) ∧ ∃ cl : List Cls, MH σ cl ∧ PW cl ∧ cl.length ≤ 10 ∧ (toksOf cl).length ≤ 100
theorem MBx_get {σ : Sg} (m0 : MI σ) (h : MBx σ) : ∃ (S : Stc) (D : Dyn), SBd 6 S ∧ DBd 6 20000 D ∧ MT 6 S σ ∧ MDy 6 D σ := by
  obtain ⟨⟨b1, b2, b3, b4, b5, b6, b7⟩, m28, cl, mh, pw, cl10, tk⟩ := h
  have f1 := MI_f1 m0
  have f2 := MI_f2 m0
  have e2 := cl_eq (x := gi σ 74 2) (by omega)
  have ln : ∀ p, p < 6 → 0 ≤ (gi σ 110 p).toInt ∧ (gi σ 110 p).toInt ≤ 5 := fun p hp => m0.2.1.2.1 p hp
  have m28' : (gi σ 74 28).toInt = -1 := by rw [m28]; rfl
  refine ⟨((gi σ 74 2).toNatClampNeg, (fun p => (gi σ 110 p).toNatClampNeg), (fun m => (gi σ 103 m).toInt), (fun m => (gi σ 104 m).toInt), (fun k => (gi σ 109 k).toInt), (lastW 2 2 cl : Int), (lastW 3 1 cl : Int), cl), ((gi σ 74 1).toInt, (fun m => (gi σ 105 m).toInt), (fun m => (gi σ 106 m).toInt), (fun m => (gi σ 107 m).toInt), (fun m => (gi σ 108 m).toInt)), ⟨Nat.le_refl 6, ?_, fun p hp => ?_, fun m hm => ⟨b1 m hm, b2 m hm⟩, fun k hk => b7 k hk, ?_, ?_, pw, cl10, tk⟩, ⟨f1, fun m hm => ⟨b3 m hm, b4 m hm, b5 m hm, ?_⟩⟩, ⟨e2.symm, fun p hp => ?_, fun m hm => rfl, fun m hm => rfl, fun k hk => rfl, mh, rfl, Or.inr ⟨by omega, rfl⟩⟩, ⟨rfl, fun m hm => rfl, fun m hm => rfl, fun m hm => rfl, fun m hm => rfl⟩⟩
  · show (gi σ 74 2).toNatClampNeg ≤ 6; omega
  · have hp : p < (gi σ 74 2).toNatClampNeg := hp
    have a := ln p (by omega)
    have := cl_eq (x := gi σ 110 p) a.1
    show (gi σ 110 p).toNatClampNeg < 6
    omega
  · have := lastW_b (w := 2) cl 2 pw (by decide)
    show 0 ≤ (lastW 2 2 cl : Int) ∧ (lastW 2 2 cl : Int) ≤ 99
    omega
  · have := lastW_b (w := 3) cl 1 pw (by decide)
    show 0 ≤ (lastW 3 1 cl : Int) ∧ (lastW 3 1 cl : Int) ≤ 99
    omega
  · have := b6 m hm
    show 0 ≤ (gi σ 108 m).toInt ∧ (gi σ 108 m).toInt ≤ 1000
    omega
  · have hp : p < (gi σ 74 2).toNatClampNeg := hp
    exact (cl_eq (ln p (by omega)).1).symm
theorem MBx_fr {σ0 σ : Sg} (h : MBx σ0) (f : Fr [74, 105, 106, 107, 108, 110, 129, 131, 132, 134, 135, 136, 137, 138, 139] [1, 30, 33] σ0 σ) (r : RWS σ0 σ) : MBx σ := by
  obtain ⟨⟨b1, b2, b3, b4, b5, b6, b7⟩, m28, cl, mh, pw, cl10, tk⟩ := h
  have g : ∀ id k, id ∉ [74, 105, 106, 107, 108, 110, 129, 131, 132, 134, 135, 136, 137, 138, 139] → gi σ id k = gi σ0 id k := fun id k h => congrFun (f.1 id h).1 k
  refine ⟨⟨BR_eq (fun k _ => g 103 k (by decide)) b1, BR_eq (fun k _ => g 104 k (by decide)) b2, BR_eq (fun k hk => r 105 k (by decide) (by decide) hk) b3, BR_eq (fun k hk => r 106 k (by decide) (by decide) hk) b4, BR_eq (fun k hk => r 107 k (by decide) (by decide) hk) b5, BR_eq (fun k hk => r 108 k (by decide) (by decide) hk) b6, BR_eq (fun k _ => g 109 k (by decide)) b7⟩, by rw [f.2.1 28 (by decide)]; exact m28, cl, MH_eq (f.2.1 12 (by decide)) (fun id k a b => g id k (by simp; omega)) mh, pw, cl10, tk⟩
theorem allZ {σ : Sg} : ∀ (N : Nat) (x1 x2 : Int32), ∃ r, LF_X12_all N x1 x2 σ = (r, σ) := by
  intro N
  induction N with
  | zero => intro x1 x2; exact ⟨0, rfl⟩
  | succ N ih =>
    intro x1 x2
    show ∃ r, LB_X12_all_4 (LF_X12_all N) x1 x2 σ = (r, σ)
    unfold LB_X12_all_4
    by_cases c : (gi σ 74 0) ≤ x2
    · rw [if_pos c]; exact ⟨_, rfl⟩
    · rw [if_neg c, fl_e, fl_e]; exact ih _ _
theorem ftsLZ {S : Stc} {σ0 : Sg} {a : Int32} {j c : Nat} (sb : SBd 6 S) (ha : a.toInt = (j : Int)) (hj : j ≤ 12) (hc6 : c ≤ 6) : ∀ (k p N : Nat) (x2 : Int32) (D : Dyn) (σ : Sg), p + k = c → k < N → x2.toInt = (p : Int) → (gi σ 74 0).toInt = (c : Int) → DBd 6 20000 D → MT 6 S σ → MDy 6 D σ → KP σ0 σ →
    Rt (LF_X12_fromTheStart N a x2 σ) (fun _ σ' => FXz σ0 σ') := by
  intro k
  induction k with
  | zero =>
    intro p N x2 D σ hp hN h2 h0 db hs hd hk
    obtain ⟨N, rfl⟩ : ∃ i, N = i + 1 := ⟨N - 1, by omega⟩
    show Rt (LB_X12_fromTheStart_6 (LF_X12_fromTheStart N) a x2 σ) _
    unfold LB_X12_fromTheStart_6
    refine Rt_t (i_le (by omega)) ?_
    refine Rt_fs (gosM9 sb ha (by omega) (by omega) db hs hd) (fun σ2 ⟨_, f2, _⟩ => ?_)
    obtain ⟨r, e⟩ := allZ (σ := σ2) 9 (0 : Int32) (0 : Int32)
    refine Rt_fe (show F_X12_all σ2 = (r, σ2) from e) ?_
    exact Rt_fs (putM (KP_q (Nat.le_refl 6) hk f2)) (fun σ5 z5 => Rt_p z5)
  | succ k ih =>
    intro p N x2 D σ hp hN h2 h0 db hs hd hk
    obtain ⟨N, rfl⟩ : ∃ i, N = i + 1 := ⟨N - 1, by omega⟩
    have ex := cl_eq (x := x2) (by omega)
    show Rt (LB_X12_fromTheStart_6 (LF_X12_fromTheStart N) a x2 σ) _
    unfold LB_X12_fromTheStart_6
    refine Rt_f (i_nle (by omega)) ?_
    rw [show x2.toNatClampNeg = p from by omega]
    refine Rt_fl (fun σ7 e7 => Rt_fl (fun v8 e8 => ?_))
    obtain ⟨d1, d2, d3, d4, d5⟩ := DBd_i.mp db
    obtain ⟨m1, m2, m3, m4, m5⟩ := hd
    refine ih (p + 1) N v8 (D_m D, upi (D_at D) p 0, D_ed D, D_ti D, D_st D) σ7 (by omega) (by omega) (by rw [e8, i_inc (by omega)]; omega) (by rw [e7, gi_si_ne (Or.inl (by decide))]; exact h0) (DBd_i.mpr ⟨d1, upi_b d2 (by decide), d3, d4, d5⟩) (by rw [e7]; exact MT_eq (fun id j h9 => gi_si_ne (Or.inl (by omega))) hs) ⟨by rw [e7, gi_si_ne (Or.inl (by decide))]; exact m1, row_u m2 (by rw [e7, gi_si_eq]; rfl) (fun j hj => by rw [e7, gi_si_ne (Or.inr hj)]), row_k m3 (fun j => by rw [e7, gi_si_ne (Or.inl (by decide))]), row_k m4 (fun j => by rw [e7, gi_si_ne (Or.inl (by decide))]), row_k m5 (fun j => by rw [e7, gi_si_ne (Or.inl (by decide))])⟩ (by rw [e7]; exact KP_si (by omega) hk)
theorem ftsZ {a : Int32} {σ : Sg} (m0 : MI σ) (h : MBx σ) (h1 : 1 ≤ a.toInt) (h12 : a.toInt ≤ 12) : Rt (F_X12_fromTheStart a σ) (fun _ σ' => RWS σ σ') := by
  obtain ⟨S, D, sb, db, ms, md⟩ := MBx_get m0 h
  have f0 := MI_f0 m0
  obtain ⟨c, hc⟩ : ∃ c : Nat, (gi σ 74 0).toInt = (c : Int) := ⟨(gi σ 74 0).toInt.toNat, by omega⟩
  unfold F_X12_fromTheStart
  refine Rt_fs (savT (Nat.le_refl 6) ms md) (fun σ1 ⟨k1, s1, d1, _, z1⟩ => ?_)
  refine Rt_w (ftsLZ (j := a.toInt.toNat) (c := c) sb (by omega) (by omega) (by omega) c 0 20 (0 : Int32) D σ1 (by omega) (by omega) rfl (by rw [FXz_i z1 (by omega)]; exact hc) db s1 d1 k1) (fun _ σ' z => fun id k a b c => FXz_i z (by omega))
