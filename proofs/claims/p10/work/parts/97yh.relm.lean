/-! both states alike, the minutes too -/
noncomputable def RELM (σ : Sg) : Prop := RELF σ ∧ MN σ
theorem MBx_of {V : Vx} {σ : Sg} (q : RELM σ) (hI : INV V σ) : MBx σ := by
  obtain ⟨cl, f, -, -, -, mh, pw, cl10, tk⟩ := HLD_get q.1.2 (MI_f11 hI.2.1).2
  exact ⟨q.2.1, q.2.2.2.2.2.2.1, cl, mh, pw, cl10, tk⟩
theorem MBx_ma {σ σ1 : Sg} (f : MA σ σ1) (h : MBx σ) : MBx σ1 := by
  obtain ⟨b, m28, cl, mh, pw, cl10, tk⟩ := h
  exact ⟨BNW_eq (fun id k a b => f id (by omega) (by omega) k) b, by rw [f 74 (by decide) (by decide)]; exact m28, cl, MH_eq (f 74 (by decide) (by decide) 12) (fun id k a b => f id (by omega) (by omega) k) mh, pw, cl10, tk⟩
theorem MN_ord {σ σ1 : Sg} (mn : MN σ) (f : Fr [74, 105, 106, 107, 108, 110, 129, 131, 132, 134, 135, 136, 137, 138, 139] [1, 30, 33] σ σ1) (r : RWS σ σ1) : MN σ1 := by
  obtain ⟨⟨b1, b2, b3, b4, b5, b6, b7⟩, bi, E1, E2, m2, m28, m11, m17⟩ := mn
  have g : ∀ id k, id ∉ [74, 105, 106, 107, 108, 110, 129, 131, 132, 134, 135, 136, 137, 138, 139] → gi σ1 id k = gi σ id k := fun id k h => congrFun (f.1 id h).1 k
  refine ⟨⟨BR_eq (fun k _ => g 103 k (by decide)) b1, BR_eq (fun k _ => g 104 k (by decide)) b2, BR_eq (fun k hk => r 105 k (by decide) (by decide) hk) b3, BR_eq (fun k hk => r 106 k (by decide) (by decide) hk) b4, BR_eq (fun k hk => r 107 k (by decide) (by decide) hk) b5, BR_eq (fun k hk => r 108 k (by decide) (by decide) hk) b6, BR_eq (fun k _ => g 109 k (by decide)) b7⟩, BIM_eq (fun id k a b c => g id k (by simp; omega)) bi, fun m hm => ?_, EQN_eq (by rw [g 17 1 (by decide)]) (fun id k a => g id k (by simp; omega)) E2, by rw [f.2.1 2 (by decide), f.2.1 0 (by decide)]; exact m2, by rw [f.2.1 28 (by decide)]; exact m28, by rw [g 1 11 (by decide)]; exact m11, by rw [g 17 11 (by decide)]; exact m17⟩
  rw [g 1 1 (by decide), g (1 + 3) m (by decide), g (1 + 4) m (by decide), g (1 + 5) m (by decide), g (1 + 6) m (by decide), r 105 m (by decide) (by decide) hm, r (105 + 1) m (by decide) (by decide) hm, r (105 + 2) m (by decide) (by decide) hm, r (105 + 3) m (by decide) (by decide) hm]
  exact E1 m hm
theorem Z_on {n : Nat} {K : Int} {S : Stc} {D : Dyn} {σ σ' : Sg} {a1 a2 r : Int32} (h : HMo n K S D σ) (e : F_X12_on a1 a2 σ = (r, σ')) : FXz σ σ' := by
  have z := Rt_of (onM (a1 := a1) (a2 := a2) h) e
  exact z.2
theorem Z_done {n : Nat} {K : Int} {S : Stc} {D : Dyn} {σ σ' : Sg} {r : Int32} (h : HMo n K S D σ) (e : F_X12_done σ = (r, σ')) : FXz σ σ' := by
  have z := Rt_of (doneM h) e
  exact z.2
theorem Z_whets {n : Nat} {K : Int} {S : Stc} {D : Dyn} {σ σ' : Sg} {a1 a2 r : Int32} (h : HMo n K S D σ) (e : F_X12_whets a1 a2 σ = (r, σ')) : FXz σ σ' := by
  have z := Rt_of (whetsM (a1 := a1) (a2 := a2) h) e
  exact z.2
theorem Z_apart {n : Nat} {K : Int} {S : Stc} {D : Dyn} {σ σ' : Sg} {a1 a2 r : Int32} (h : HMo n K S D σ) (h28 : gi σ 74 28 = (-1 : Int32)) (e : F_X12_apart a1 a2 σ = (r, σ')) : FXz σ σ' := by
  have z := Rt_of (apartM (a1 := a1) (a2 := a2) h h28) e
  exact z.2
theorem Z_rest {n : Nat} {K : Int} {S : Stc} {D : Dyn} {σ σ' : Sg} {a1 a2 r : Int32} (h : HMo n K S D σ) (e : F_X12_rest a1 a2 σ = (r, σ')) : FXz σ σ' := by
  have z := Rt_of (restM (a1 := a1) (a2 := a2) h) e
  exact z.2
theorem Z_paused {n : Nat} {K : Int} {S : Stc} {D : Dyn} {σ σ' : Sg} {a1 a2 r : Int32} (h : HMo n K S D σ) (e : F_X12_paused a1 a2 σ = (r, σ')) : FXz σ σ' := by
  have z := Rt_of (pausedM (a1 := a1) (a2 := a2) h) e
  exact z.2
theorem Z_stop {n : Nat} {K : Int} {S : Stc} {D : Dyn} {σ σ' : Sg} {a1 a2 a3 a4 r : Int32} (h : HMo n K S D σ) (e : F_X12_stop a1 a2 a3 a4 σ = (r, σ')) : FXz σ σ' := by
  have z := Rt_of (stopM (a1 := a1) (a2 := a2) (a3 := a3) (a4 := a4) h) e
  exact z.2
theorem Z_alone {n : Nat} {K : Int} {S : Stc} {D : Dyn} {σ σ' : Sg} {a1 r : Int32} (h : HMo n K S D σ) (e : F_X12_alone a1 σ = (r, σ')) : FXz σ σ' := by
  have z := Rt_of (aloneM (a1 := a1) h) e
  exact z.2
theorem Z_looked {n : Nat} {K : Int} {S : Stc} {D : Dyn} {σ σ' : Sg} {r : Int32} (h : HMo n K S D σ) (e : F_X12_looked σ = (r, σ')) : FXz σ σ' := by
  have z := Rt_of (lookedM h) e
  exact z
theorem Z_odds {n : Nat} {K : Int} {S : Stc} {D : Dyn} {σ σ' : Sg} {a1 a2 a3 : Int32} {r : Int64} (h : HMo n K S D σ) (e : F_X12_odds a1 a2 a3 σ = (r, σ')) : FXz σ σ' := by
  have z := Rt_of (oddsM (a1 := a1) (a2 := a2) (a3 := a3) h) e
  exact z.2
theorem Z_mean {n : Nat} {K : Int} {S : Stc} {D : Dyn} {σ σ' : Sg} {a1 a2 : Int32} {r : Int64} (h : HMo n K S D σ) (e : F_X12_mean a1 a2 σ = (r, σ')) : FXz σ σ' := by
  have z := Rt_of (meanM (a1 := a1) (a2 := a2) h) e
  exact z.2
theorem Z_planned {n : Nat} {K : Int} {S : Stc} {D : Dyn} {σ0 σ σ' : Sg} {r : Int32} (m0 : MI σ0) (f : MA σ0 σ) (h : HMo n K S D σ) (e : F_X12_planned σ = (r, σ')) : FXz σ σ' := by
  have b := MI_f45 m0
  have e45 : gi σ 74 45 = gi σ0 74 45 := f 74 (by decide) (by decide) 45
  have z := Rt_of (plannedM (P := (gi σ 74 45).toInt.toNat) (f := fun k => (gi σ 147 k).toInt) h (by rw [e45]; omega) (by rw [e45]; omega) (fun k _ => rfl)) e
  exact z.2
theorem Z_who {n : Nat} {K : Int} {S : Stc} {D : Dyn} {σ0 σ σ' : Sg} {r : Int32} (m0 : MI σ0) (f : MA σ0 σ) (h : HMo n K S D σ) (e : F_X12_who σ = (r, σ')) : FXz σ σ' := by
  have b := MI_f41 m0
  have e41 : gi σ 74 41 = gi σ0 74 41 := f 74 (by decide) (by decide) 41
  have t : ∀ k, k < 6 → 0 ≤ (gi σ 143 k).toInt ∧ (gi σ 143 k).toInt ≤ 30 := fun k hk => by
    rw [f 143 (by decide) (by decide) k]
    exact m0.2.1.2.2.2.2.2.2.2.2.2.2.1 k hk
  have z := Rt_of (whoZ h (by rw [e41]; omega) t) e
  exact z
