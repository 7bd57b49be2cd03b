/-! what both states have alike -/
noncomputable def XALL (σ σ' : Sg) : Prop := (gi σ' 1 1).toInt = (gi σ 1 1).toInt ∧ (gi σ' 17 1).toInt = (gi σ 17 1).toInt ∧ (gi σ' 0 3).toInt = (gi σ 0 3).toInt ∧ (gi σ' 11 1).toInt = (gi σ 11 1).toInt ∧ (gi σ' 27 1).toInt = (gi σ 27 1).toInt ∧ (gi σ' 13 1).toInt = (gi σ 13 1).toInt ∧ (gi σ' 29 1).toInt = (gi σ 29 1).toInt ∧ (gi σ' 1 9).toInt = (gi σ 1 9).toInt ∧ (gi σ' 17 9).toInt = (gi σ 17 9).toInt ∧ (gi σ' 9 1).toInt = (gi σ 9 1).toInt ∧ (gi σ' 25 1).toInt = (gi σ 25 1).toInt
noncomputable def MALL (σ σ' : Sg) : Prop := (gi σ' 74 0).toInt = (gi σ 74 0).toInt ∧ (gi σ' 74 51).toInt = (gi σ 74 51).toInt ∧ (gi σ' 74 49).toInt = (gi σ 74 49).toInt ∧ (gi σ' 74 45).toInt = (gi σ 74 45).toInt ∧ (gi σ' 74 54).toInt = (gi σ 74 54).toInt ∧ (gi σ' 74 46).toInt = (gi σ 74 46).toInt ∧ (gi σ' 74 55).toInt = (gi σ 74 55).toInt ∧ (gi σ' 74 1).toInt = (gi σ 74 1).toInt ∧ (gi σ' 74 52).toInt = (gi σ 74 52).toInt ∧ (gi σ' 74 41).toInt = (gi σ 74 41).toInt ∧ (gi σ' 74 53).toInt = (gi σ 74 53).toInt
theorem XALL_xa {σ σ' : Sg} (h : XA σ σ') : XALL σ σ' := ⟨by rw [h.1 1 (by decide)], by rw [h.1 17 (by decide)], by rw [h.1 0 (by decide)], by rw [h.1 11 (by decide)], by rw [h.1 27 (by decide)], by rw [h.1 13 (by decide)], by rw [h.1 29 (by decide)], by rw [h.1 1 (by decide)], by rw [h.1 17 (by decide)], by rw [h.1 9 (by decide)], by rw [h.1 25 (by decide)]⟩
theorem MALL_ma {σ σ' : Sg} (h : MA σ σ') : MALL σ σ' := ⟨by rw [h 74 (by decide) (by decide)], by rw [h 74 (by decide) (by decide)], by rw [h 74 (by decide) (by decide)], by rw [h 74 (by decide) (by decide)], by rw [h 74 (by decide) (by decide)], by rw [h 74 (by decide) (by decide)], by rw [h 74 (by decide) (by decide)], by rw [h 74 (by decide) (by decide)], by rw [h 74 (by decide) (by decide)], by rw [h 74 (by decide) (by decide)], by rw [h 74 (by decide) (by decide)]⟩
noncomputable def RSC (σ : Sg) : Prop := (gi σ 1 1).toInt = (gi σ 74 0).toInt ∧ (gi σ 17 1).toInt = (gi σ 74 51).toInt ∧ (gi σ 0 3).toInt = (gi σ 74 49).toInt ∧ (gi σ 11 1).toInt = (gi σ 74 45).toInt ∧ (gi σ 27 1).toInt = (gi σ 74 54).toInt ∧ (gi σ 13 1).toInt = (gi σ 74 46).toInt ∧ (gi σ 29 1).toInt = (gi σ 74 55).toInt ∧ (gi σ 1 9).toInt = (gi σ 74 1).toInt ∧ (gi σ 17 9).toInt = (gi σ 74 52).toInt ∧ (gi σ 9 1).toInt = 3 * (gi σ 74 41).toInt ∧ (gi σ 25 1).toInt = 3 * (gi σ 74 53).toInt
theorem TAP_x {S : Nat → Prop} {F : Nat → Nat → Prop} {σ σ' : Sg} (f : FX S F σ σ') (h1 : ∀ id, (52 ≤ id ∧ id ≤ 63) ∨ (171 ≤ id ∧ id ≤ 173) → ¬ S id) (h2 : ∀ id k, (52 ≤ id ∧ id ≤ 63) ∨ (171 ≤ id ∧ id ≤ 173) → ¬ F id k) (q : TAP σ) : TAP σ' := fun t ht => by
  obtain ⟨q1, q2, q3, q4⟩ := q t ht
  have e : ∀ id k, (52 ≤ id ∧ id ≤ 63) ∨ (171 ≤ id ∧ id ≤ 173) → gi σ' id k = gi σ id k := fun id k h => f.1 id k (h1 id h) (h2 id k h)
  have g : ∀ id k, (52 ≤ id ∧ id ≤ 63) ∨ (171 ≤ id ∧ id ≤ 173) → gl σ' id k = gl σ id k := fun id k h => f.2.1 id k (h1 id h)
  rw [e _ _ (by omega), e 171 _ (by omega), e _ _ (by omega), e 172 _ (by omega)]
  exact ⟨q1, q2, q3, fun i hi => by rw [g _ _ (by omega), g 173 _ (by omega)]; exact q4 i hi⟩
theorem TAP_m {S F : List Nat} {σ σ' : Sg} (f : Fr S F σ σ') (h : ∀ id ∈ S, 74 ≤ id ∧ (id < 171 ∨ 173 < id)) (q : TAP σ) : TAP σ' := fun t ht => by
  obtain ⟨q1, q2, q3, q4⟩ := q t ht
  have n : ∀ id, id < 74 ∨ (171 ≤ id ∧ id ≤ 173) → id ∉ S := fun id h1 h2 => by
    have := h id h2
    omega
  have e : ∀ id k, id < 74 ∨ (171 ≤ id ∧ id ≤ 173) → gi σ' id k = gi σ id k := fun id k h => congrFun (f.1 id (n id h)).1 k
  have g : ∀ id k, id < 74 ∨ (171 ≤ id ∧ id ≤ 173) → gl σ' id k = gl σ id k := fun id k h => congrFun (f.1 id (n id h)).2 k
  rw [e _ _ (by omega), e 171 _ (by omega), e _ _ (by omega), e 172 _ (by omega)]
  exact ⟨q1, q2, q3, fun i hi => by rw [g _ _ (by omega), g 173 _ (by omega)]; exact q4 i hi⟩
theorem TAP_b {V : Vx} {σ : Sg} (m0 : XI V σ) : ∀ t : Nat, t < 6 → 0 ≤ (gi σ (52 + 2 * t) 2).toInt ∧ (gi σ (52 + 2 * t) 2).toInt ≤ 60 := fun t ht => XI_c1 m0 (lim_T0_2 (show isT (52 + 2 * t) from by
  rcases t with _ | _ | _ | _ | _ | _ | t
  · exact Or.inl rfl
  · exact Or.inr (Or.inl rfl)
  · exact Or.inr (Or.inr (Or.inl rfl))
  · exact Or.inr (Or.inr (Or.inr (Or.inl rfl)))
  · exact Or.inr (Or.inr (Or.inr (Or.inr (Or.inl rfl))))
  · exact Or.inr (Or.inr (Or.inr (Or.inr (Or.inr rfl))))
  · omega))
noncomputable def REL (σ : Sg) : Prop := RSC σ ∧ TAP σ ∧ REL2 σ
