/-! a mower comes to a course -/
set_option maxRecDepth 100000 in
set_option maxHeartbeats 4000000 in
theorem k_X1_comes {l : Launch} {V : Vx} {c0 a1 : Nat} {σ0 : Sg} {Qk : Int32 → Sg → Prop} (hc0 : isC c0) {ci1 : Nat} (sa1 : isMc ci1) (ha1 : kd a1 = (10 + ci1, 0)) (la1 : a1 ∈ ids V) (m0 : XI V σ0) (n0 : NN σ0 c0) (e1 : gi σ0 a1 1 = gi σ0 c0 1) (hlt : (gi σ0 c0 1).toInt ≤ 5) (heq : (gi σ0 c0 3).toInt = (gi σ0 c0 1).toInt)
    (h9 : ∀ (r : Int32) (σ' : Sg), XI V σ' → FX (fun id => id = c0 + 1 ∨ id = c0 + 2 ∨ id = c0 + 4) (fun id k => id = c0 ∧ (k = 1 ∨ k = 3)) σ0 σ' → NN σ' c0 → (gi σ' c0 1).toInt = (gi σ0 c0 1).toInt + 1 → (gi σ' c0 3).toInt = (gi σ' c0 1).toInt → r = gi σ0 c0 1 → Qk r σ') : K_X1_comes l V c0 a1 σ0 Qk := by
  refine e_X1_comes (fun M hl hV hN C => ?_)
  subst hl
  subst hV
  have b1 := XI_c1 m0 (lim_C0_1 hc0)
  have ec := cl_eq b1.1
  refine s_X1_comes_0 C hN hc0 sa1 ha1 la1 ?_
  intro v1 ev1
  have ev : v1 = gi σ0 c0 1 := ev1.trans e1
  have hv1 : vp_in v1 6 := by rw [ev]; exact vp_in_iff.mpr ⟨by omega, by omega⟩
  refine ⟨hv1, ?_⟩
  intro σ3 eσ3
  have m3 : XI (mV M) σ3 := by
    rw [eσ3]
    refine XIs_r m0 (fun c hc e _ => ?_) (fun c hc e μ hμ => ?_) (fun e => ?_) (fun e _ => ?_)
    · exfalso; rcases hc0 with rfl | rfl | rfl <;> rcases hc with rfl | rfl | rfl <;> omega
    · obtain rfl : a1 = μ := Option.some.inj hμ
      exact ⟨ci1, sa1, ha1, la1⟩
    · exfalso; rcases hc0 with rfl | rfl | rfl <;> omega
    · rw [kdC_1 hc0] at e; cases e
  refine ⟨hv1, ?_⟩
  intro σ5 eσ5
  have m5 : XI (mV M) σ5 := by rw [eσ5]; exact XIs_n m3 (lim_C4 hc0 _)
  have c5 : gi σ5 c0 1 = gi σ0 c0 1 := by rw [eσ5, gi_si_ne (Or.inl (by omega)), eσ3, gi_sr]
  refine ⟨by rw [c5, ← ev]; exact hv1, ?_⟩
  intro σ7 eσ7
  have m7 : XI (mV M) σ7 := by rw [eσ7]; exact XIs_b m5 (lim_C2 hc0 _) (by rw [ev]; omega) (by rw [ev]; omega)
  have c7 : gi σ7 c0 1 = gi σ0 c0 1 := by rw [eσ7, gi_si_ne (Or.inl (by omega))]; exact c5
  intro σ8 eσ8
  have s8 : ((gi σ7 c0 1) + (1 : Int32)).toInt = (gi σ0 c0 1).toInt + 1 := by rw [c7]; exact i_add (y := (1 : Int32)) (by show _ ≤ (gi σ0 c0 1).toInt + 1; omega) (by show (gi σ0 c0 1).toInt + 1 ≤ _; omega)
  have m8 : XI (mV M) σ8 := by rw [eσ8]; exact XIs_b m7 (lim_C0_1 hc0) (by omega) (by omega)
  have c8 : gi σ8 c0 1 = (gi σ7 c0 1) + (1 : Int32) := by rw [eσ8, gi_si_eq]
  intro σ9 eσ9
  have m9 : XI (mV M) σ9 := by rw [eσ9]; exact XIs_b m8 (lim_C0_3 hc0) (by rw [c8]; omega) (by rw [c8]; omega)
  have c91 : gi σ9 c0 1 = (gi σ7 c0 1) + (1 : Int32) := by rw [eσ9, gi_si_ne (Or.inr (by decide))]; exact c8
  have c93 : gi σ9 c0 3 = (gi σ7 c0 1) + (1 : Int32) := by rw [eσ9, gi_si_eq]; exact c8
  have g2 : ∀ p, gi σ9 (c0 + 2) p = if p = v1.toNatClampNeg then v1 else gi σ0 (c0 + 2) p := fun p => by
    rw [eσ9, gi_si_ne (Or.inl (by omega)), eσ8, gi_si_ne (Or.inl (by omega)), eσ7, c5, ← ev]
    by_cases z : p = v1.toNatClampNeg
    · rw [if_pos z, z, gi_si_eq]
    · rw [if_neg z, gi_si_ne (Or.inr z), eσ5, gi_si_ne (Or.inl (by omega)), eσ3, gi_sr]
  have g1 : ∀ p, gr σ9 (c0 + 1) p = if p = v1.toNatClampNeg then some a1 else gr σ0 (c0 + 1) p := fun p => by
    rw [eσ9, gr_si, eσ8, gr_si, eσ7, gr_si, eσ5, gr_si, eσ3, gr_sr]
    by_cases z : p = v1.toNatClampNeg
    · rw [if_pos ⟨rfl, z⟩, if_pos z]
    · rw [if_neg (fun h => z h.2), if_neg z]
  have evn : v1.toNatClampNeg = (gi σ0 c0 1).toNatClampNeg := by rw [ev]
  refine h9 v1 σ9 m9 ?_ ⟨fun p hp => ?_, fun m hm => ?_⟩ (by rw [c91]; exact s8) (by rw [c93, c91]) ev
  · rw [eσ9, eσ8, eσ7, eσ5, eσ3]
    exact FX_si (FX_si (FX_si (FX_si (FX_sr FX_rf (Or.inl (Or.inl rfl))) (Or.inl (Or.inr (Or.inr rfl)))) (Or.inl (Or.inr (Or.inl rfl)))) (Or.inr ⟨rfl, Or.inl rfl⟩)) (Or.inr ⟨rfl, Or.inr rfl⟩)
  · rw [c93, s8] at hp
    rw [c91, s8, g2]
    by_cases z : p = v1.toNatClampNeg
    · rw [if_pos z, ev]; omega
    · rw [if_neg z]
      have := n0.1 p (by omega)
      omega
  · rw [c91, s8] at hm
    rw [g1]
    by_cases z : m = v1.toNatClampNeg
    · rw [if_pos z]; simp
    · rw [if_neg z]
      exact n0.2 m (by omega)
