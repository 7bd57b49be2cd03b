/-! methods in words of INV, with what they are as functions -/
set_option maxHeartbeats 4000000 in
theorem L7_X11_order {l : Launch} {V : Vx} {a1 : Int32} {a2 : Int32} {σ0 : Sg} {Qk : Int32 → Sg → Prop} (q : INV V σ0) (h9ret : ∀ (r : Int32) (σ' : Sg), INV V σ' → (FX (fun id => id = 34 ∨ id = 35 ∨ id = 36 ∨ id = 37 ∨ id = 38 ∨ id = 39 ∨ id = 40 ∨ id = 47 ∨ id = 48 ∨ id = 66 ∨ id = 67) (fun id k => (id = 33 ∧ k = 1) ∨ (id = 33 ∧ k = 3) ∨ (id = 33 ∧ k = 9) ∨ (id = 33 ∧ k = 10) ∨ (id = 33 ∧ k = 11)) σ0 σ') → (F_X11_order a1 a2 σ0 = (r, σ')) → Qk r σ') : K_X11_order l V a1 a2 σ0 Qk := by
  refine kF_X11_order q.1.1 q.1.2.1 q.1.2.2.2.2.2.1 (fun r σ' p0 p1 p2 p3 => h9ret r σ' ?_ p1 p3)
  exact INV_fx (FX_tr FX_rf p1 (by intro id h9; (try dsimp only at h9) <;> unfold Sf <;> first | exact h9.elim | omega) (by intro id k h9; (try dsimp only at h9) <;> unfold Sf Ff <;> first | exact h9.elim | omega)) p0 q
set_option maxHeartbeats 4000000 in
theorem L7_X12_order {l : Launch} {V : Vx} {a1 : Int32} {a2 : Int32} {σ0 : Sg} {Qk : Int32 → Sg → Prop} (q : INV V σ0) (h9ret : ∀ (r : Int32) (σ' : Sg), INV V σ' → (Fr [74, 105, 106, 107, 108, 110, 129, 131, 132, 134, 135, 136, 137, 138, 139] [1, 30, 33] σ0 σ') → ((gi σ' 74 1).toInt = (gi σ0 74 1).toInt) → (CD σ0 σ' 110 110 6) → (F_X12_order a1 a2 σ0 = (r, σ')) → Qk r σ') : K_X12_order l V a1 a2 σ0 Qk := by
  refine kF_X12_order q.2.1 q.2.2.2.2.2.2.1 (fun r σ' p0 p1 p2 p3 p4 => h9ret r σ' ?_ p1 p2 p3 p4)
  refine INV_m p1 (by decide) q ?_
  obtain ⟨-, q1, q2, q3, q4, q5, q6, q7⟩ := q
  exact ⟨p0, by rw [p1.2.1 12 (by decide), p1.2.1 11 (by decide)]; exact q2, by rw [p1.2.1 50 (by decide), p1.2.1 11 (by decide)]; exact q3, PL_cd q1 q4 p3 (by rw [p1.2.1 0 (by decide)]), PLI_fr q5 p1 (by decide) (by decide), by rw [p2]; exact q6, by rw [p1.2.1 52 (by decide)]; exact q7⟩
