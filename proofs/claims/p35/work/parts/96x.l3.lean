/-! every method in words of INV, with all that is known of it -/
set_option maxHeartbeats 4000000 in
theorem L3_X11_of {l : Launch} {V : Vx} {a1 : Int32} {a2 : Int32} {σ0 : Sg} {Qk : Int32 → Sg → Prop} (q : INV V σ0) (h9ret : ∀ (r : Int32) (σ' : Sg), INV V σ' → (FX (fun id => id = 16) (fun _ _ => False) σ0 σ') → Qk r σ') : K_X11_of l V a1 a2 σ0 Qk := by
  refine k_X11_of q.1.1 q.1.2.1 q.1.2.2.2.1 (fun r σ' p0 p1 p2 => h9ret r σ' ?_ p1)
  exact INV_fx (FX_tr FX_rf p1 (by intro id h9; (try dsimp only at h9) <;> unfold Sf <;> first | exact h9.elim | omega) (by intro id k h9; (try dsimp only at h9) <;> unfold Sf Ff <;> first | exact h9.elim | omega)) p0 q
set_option maxHeartbeats 4000000 in
theorem L3_X11_set {l : Launch} {V : Vx} {a1 : Int32} {a2 : Int32} {a3 : Int32} {σ0 : Sg} {Qk : Int32 → Sg → Prop} (q : INV V σ0) (h9ret : ∀ (r : Int32) (σ' : Sg), INV V σ' → (FX (fun id => id = 4 ∨ id = 5 ∨ id = 6 ∨ id = 7) (fun _ _ => False) σ0 σ') → Qk r σ') : K_X11_set l V a1 a2 a3 σ0 Qk := by
  refine k_X11_set q.1.1 (fun r σ' p0 p1 => h9ret r σ' ?_ p1)
  exact INV_fx (FX_tr FX_rf p1 (by intro id h9; (try dsimp only at h9) <;> unfold Sf <;> first | exact h9.elim | omega) (by intro id k h9; (try dsimp only at h9) <;> unfold Sf Ff <;> first | exact h9.elim | omega)) p0 q
set_option maxHeartbeats 4000000 in
theorem L3_X11_row {l : Launch} {V : Vx} {a1 : Int32} {a2 : Int32} {a3 : Int32} {σ0 : Sg} {Qk : Int32 → Sg → Prop} (q : INV V σ0) (h9ret : ∀ (r : Int32) (σ' : Sg), INV V σ' → (FX (fun id => id = 8) (fun _ _ => False) σ0 σ') → (F_X11_row a1 a2 a3 σ0 = (r, σ')) → Qk r σ') : K_X11_row l V a1 a2 a3 σ0 Qk := by
  refine kF_X11_row q.1.1 q.1.2.1 (fun r σ' p0 p1 p2 p3 => h9ret r σ' ?_ p1 p3)
  exact INV_fx (FX_tr FX_rf p1 (by intro id h9; (try dsimp only at h9) <;> unfold Sf <;> first | exact h9.elim | omega) (by intro id k h9; (try dsimp only at h9) <;> unfold Sf Ff <;> first | exact h9.elim | omega)) p0 q
set_option maxHeartbeats 4000000 in
theorem L3_X11_place {l : Launch} {V : Vx} {a1 : Int32} {a2 : Int32} {σ0 : Sg} {Qk : Int32 → Sg → Prop} (q : INV V σ0) (h9ret : ∀ (r : Int32) (σ' : Sg), INV V σ' → (FX (fun id => id = 3) (fun _ _ => False) σ0 σ') → (F_X11_place a1 a2 σ0 = (r, σ')) → Qk r σ') : K_X11_place l V a1 a2 σ0 Qk := by
  refine kF_X11_place q.1.1 q.1.2.1 q.1.2.2.2.1 (fun r σ' p0 p1 p2 p3 => h9ret r σ' ?_ p1 p3)
  obtain ⟨⟨q1, q2, q3, q4, q5, q6, q7, q8, q9, q10⟩, qm⟩ := q
  exact ⟨⟨p0, p2, NN_fx q3 p1 (by intro h9; (try dsimp only at h9) <;> first | exact h9 | omega) (by intro h9; (try dsimp only at h9) <;> first | exact h9 | omega) (by intro h9; (try dsimp only at h9) <;> first | exact h9 | omega) (by intro h9; (try dsimp only at h9) <;> first | exact h9 | omega) (by intro h9; (try dsimp only at h9) <;> first | exact h9 | omega) (fun k => (by intro h9; (try dsimp only at h9) <;> first | exact h9 | omega)) (fun k => (by intro h9; (try dsimp only at h9) <;> first | exact h9 | omega)), by rw [FX_i p1 (id := 1) (k := 3) (by intro h9; (try dsimp only at h9) <;> first | exact h9 | omega) (by intro h9; (try dsimp only at h9) <;> first | exact h9 | omega), FX_i p1 (id := 1) (k := 1) (by intro h9; (try dsimp only at h9) <;> first | exact h9 | omega) (by intro h9; (try dsimp only at h9) <;> first | exact h9 | omega)]; exact q4, by rw [FX_i p1 (id := 17) (k := 3) (by intro h9; (try dsimp only at h9) <;> first | exact h9 | omega) (by intro h9; (try dsimp only at h9) <;> first | exact h9 | omega), FX_i p1 (id := 17) (k := 1) (by intro h9; (try dsimp only at h9) <;> first | exact h9 | omega) (by intro h9; (try dsimp only at h9) <;> first | exact h9 | omega)]; exact q5, by rw [FX_i p1 (id := 1) (k := 9) (by intro h9; (try dsimp only at h9) <;> first | exact h9 | omega) (by intro h9; (try dsimp only at h9) <;> first | exact h9 | omega)]; exact q6, by rw [FX_i p1 (id := 17) (k := 9) (by intro h9; (try dsimp only at h9) <;> first | exact h9 | omega) (by intro h9; (try dsimp only at h9) <;> first | exact h9 | omega)]; exact q7, by rw [FX_i p1 (id := 9) (k := 1) (by intro h9; (try dsimp only at h9) <;> first | exact h9 | omega) (by intro h9; (try dsimp only at h9) <;> first | exact h9 | omega)]; exact q8, by rw [FX_i p1 (id := 25) (k := 1) (by intro h9; (try dsimp only at h9) <;> first | exact h9 | omega) (by intro h9; (try dsimp only at h9) <;> first | exact h9 | omega)]; exact q9, FI_fx p1 (by intro h9; (try dsimp only at h9) <;> first | exact h9 | omega) (fun k => (by intro h9; (try dsimp only at h9) <;> first | exact h9 | omega)) q10⟩, IVM_ag (MA_fx p1 (by intro id h9; (try dsimp only at h9) <;> omega) (by intro id k h9; (try dsimp only at h9) <;> first | exact h9.elim | omega)) qm⟩
set_option maxHeartbeats 4000000 in
theorem L3_X11_feed {l : Launch} {V : Vx} {a1 : Int32} {σ0 : Sg} {Qk : Int32 → Sg → Prop} (q : INV V σ0) (h9ret : ∀ (r : Int32) (σ' : Sg), INV V σ' → (FX (fun id => id = 50) (fun id k => (id = 0 ∧ k = 7)) σ0 σ') → Qk r σ') : K_X11_feed l V a1 σ0 Qk := by
  refine k_X11_feed q.1.1 (fun r σ' p0 p1 => h9ret r σ' ?_ p1)
  exact INV_fx (FX_tr FX_rf p1 (by intro id h9; (try dsimp only at h9) <;> unfold Sf <;> first | exact h9.elim | omega) (by intro id k h9; (try dsimp only at h9) <;> unfold Sf Ff <;> first | exact h9.elim | omega)) p0 q
set_option maxHeartbeats 4000000 in
theorem L3_X11_told {l : Launch} {V : Vx} {a1 : Int32} {σ0 : Sg} {Qk : Int32 → Sg → Prop} (q : INV V σ0) (h9ret : ∀ (r : Int32) (σ' : Sg), INV V σ' → (FX (fun id => False) (fun _ _ => False) σ0 σ') → Qk r σ') : K_X11_told l V a1 σ0 Qk := by
  refine k_X11_told q.1.1 (fun r σ' p0 p1 => h9ret r σ' ?_ p1)
  exact INV_fx (FX_tr FX_rf p1 (by intro id h9; (try dsimp only at h9) <;> unfold Sf <;> first | exact h9.elim | omega) (by intro id k h9; (try dsimp only at h9) <;> unfold Sf Ff <;> first | exact h9.elim | omega)) p0 q
set_option maxHeartbeats 4000000 in
theorem L3_X11_minute {l : Launch} {V : Vx} {σ0 : Sg} {Qk : Int32 → Sg → Prop} (q : INV V σ0) (h9ret : ∀ (r : Int32) (σ' : Sg), INV V σ' → (FX (fun id => id = 15 ∨ id = 16 ∨ id = 4 ∨ id = 5 ∨ id = 6 ∨ id = 7) (fun id k => (id = 1 ∧ k = 9)) σ0 σ') → ((gi σ' 1 9).toInt ≤ 9999) → (MNA (gi σ0 1 9) (gi σ' 1 9)) → Qk r σ') : K_X11_minute l V σ0 Qk := by
  refine kt_X11_minute q.1.1 q.1.2.1 q.1.2.2.2.2.2.1 (fun r σ' p0 p1 p2 p3 p4 => h9ret r σ' ?_ p1 p3 p4)
  obtain ⟨⟨q1, q2, q3, q4, q5, q6, q7, q8, q9, q10⟩, qm⟩ := q
  exact ⟨⟨p0, p2, NN_fx q3 p1 (by intro h9; (try dsimp only at h9) <;> first | exact h9 | omega) (by intro h9; (try dsimp only at h9) <;> first | exact h9 | omega) (by intro h9; (try dsimp only at h9) <;> first | exact h9 | omega) (by intro h9; (try dsimp only at h9) <;> first | exact h9 | omega) (by intro h9; (try dsimp only at h9) <;> first | exact h9 | omega) (fun k => (by intro h9; (try dsimp only at h9) <;> first | exact h9 | omega)) (fun k => (by intro h9; (try dsimp only at h9) <;> first | exact h9 | omega)), by rw [FX_i p1 (id := 1) (k := 3) (by intro h9; (try dsimp only at h9) <;> first | exact h9 | omega) (by intro h9; (try dsimp only at h9) <;> first | exact h9 | omega), FX_i p1 (id := 1) (k := 1) (by intro h9; (try dsimp only at h9) <;> first | exact h9 | omega) (by intro h9; (try dsimp only at h9) <;> first | exact h9 | omega)]; exact q4, by rw [FX_i p1 (id := 17) (k := 3) (by intro h9; (try dsimp only at h9) <;> first | exact h9 | omega) (by intro h9; (try dsimp only at h9) <;> first | exact h9 | omega), FX_i p1 (id := 17) (k := 1) (by intro h9; (try dsimp only at h9) <;> first | exact h9 | omega) (by intro h9; (try dsimp only at h9) <;> first | exact h9 | omega)]; exact q5, p3, by rw [FX_i p1 (id := 17) (k := 9) (by intro h9; (try dsimp only at h9) <;> first | exact h9 | omega) (by intro h9; (try dsimp only at h9) <;> first | exact h9 | omega)]; exact q7, by rw [FX_i p1 (id := 9) (k := 1) (by intro h9; (try dsimp only at h9) <;> first | exact h9 | omega) (by intro h9; (try dsimp only at h9) <;> first | exact h9 | omega)]; exact q8, by rw [FX_i p1 (id := 25) (k := 1) (by intro h9; (try dsimp only at h9) <;> first | exact h9 | omega) (by intro h9; (try dsimp only at h9) <;> first | exact h9 | omega)]; exact q9, FI_fx p1 (by intro h9; (try dsimp only at h9) <;> first | exact h9 | omega) (fun k => (by intro h9; (try dsimp only at h9) <;> first | exact h9 | omega)) q10⟩, IVM_ag (MA_fx p1 (by intro id h9; (try dsimp only at h9) <;> omega) (by intro id k h9; (try dsimp only at h9) <;> first | exact h9.elim | omega)) qm⟩
set_option maxHeartbeats 4000000 in
theorem L3_X11_whet {l : Launch} {V : Vx} {σ0 : Sg} {Qk : Int32 → Sg → Prop} (q : INV V σ0) (h9ret : ∀ (r : Int32) (σ' : Sg), INV V σ' → (FX (fun id => id = 5 ∨ id = 6 ∨ id = 7) (fun id k => (id = 1 ∧ k = 9)) σ0 σ') → ((gi σ' 1 9).toInt ≤ 9999) → (WHA r (gi σ0 1 9) (gi σ' 1 9)) → Qk r σ') : K_X11_whet l V σ0 Qk := by
  refine kt_X11_whet q.1.1 q.1.2.1 q.1.2.2.2.2.2.1 (fun r σ' p0 p1 p2 p3 p4 => h9ret r σ' ?_ p1 p3 p4)
  obtain ⟨⟨q1, q2, q3, q4, q5, q6, q7, q8, q9, q10⟩, qm⟩ := q
  exact ⟨⟨p0, p2, NN_fx q3 p1 (by intro h9; (try dsimp only at h9) <;> first | exact h9 | omega) (by intro h9; (try dsimp only at h9) <;> first | exact h9 | omega) (by intro h9; (try dsimp only at h9) <;> first | exact h9 | omega) (by intro h9; (try dsimp only at h9) <;> first | exact h9 | omega) (by intro h9; (try dsimp only at h9) <;> first | exact h9 | omega) (fun k => (by intro h9; (try dsimp only at h9) <;> first | exact h9 | omega)) (fun k => (by intro h9; (try dsimp only at h9) <;> first | exact h9 | omega)), by rw [FX_i p1 (id := 1) (k := 3) (by intro h9; (try dsimp only at h9) <;> first | exact h9 | omega) (by intro h9; (try dsimp only at h9) <;> first | exact h9 | omega), FX_i p1 (id := 1) (k := 1) (by intro h9; (try dsimp only at h9) <;> first | exact h9 | omega) (by intro h9; (try dsimp only at h9) <;> first | exact h9 | omega)]; exact q4, by rw [FX_i p1 (id := 17) (k := 3) (by intro h9; (try dsimp only at h9) <;> first | exact h9 | omega) (by intro h9; (try dsimp only at h9) <;> first | exact h9 | omega), FX_i p1 (id := 17) (k := 1) (by intro h9; (try dsimp only at h9) <;> first | exact h9 | omega) (by intro h9; (try dsimp only at h9) <;> first | exact h9 | omega)]; exact q5, p3, by rw [FX_i p1 (id := 17) (k := 9) (by intro h9; (try dsimp only at h9) <;> first | exact h9 | omega) (by intro h9; (try dsimp only at h9) <;> first | exact h9 | omega)]; exact q7, by rw [FX_i p1 (id := 9) (k := 1) (by intro h9; (try dsimp only at h9) <;> first | exact h9 | omega) (by intro h9; (try dsimp only at h9) <;> first | exact h9 | omega)]; exact q8, by rw [FX_i p1 (id := 25) (k := 1) (by intro h9; (try dsimp only at h9) <;> first | exact h9 | omega) (by intro h9; (try dsimp only at h9) <;> first | exact h9 | omega)]; exact q9, FI_fx p1 (by intro h9; (try dsimp only at h9) <;> first | exact h9 | omega) (fun k => (by intro h9; (try dsimp only at h9) <;> first | exact h9 | omega)) q10⟩, IVM_ag (MA_fx p1 (by intro id h9; (try dsimp only at h9) <;> omega) (by intro id k h9; (try dsimp only at h9) <;> first | exact h9.elim | omega)) qm⟩
set_option maxHeartbeats 4000000 in
theorem L3_X11_pause {l : Launch} {V : Vx} {a1 : Int32} {σ0 : Sg} {Qk : Int32 → Sg → Prop} (q : INV V σ0) (h9ret : ∀ (r : Int32) (σ' : Sg), INV V σ' → (FX (fun id => id = 6 ∨ id = 7) (fun id k => (id = 1 ∧ k = 9)) σ0 σ') → ((gi σ' 1 9).toInt ≤ 9999) → (PAA r a1 (gi σ0 1 9) (gi σ' 1 9)) → Qk r σ') : K_X11_pause l V a1 σ0 Qk := by
  refine kt_X11_pause q.1.1 q.1.2.1 q.1.2.2.2.2.2.1 (fun r σ' p0 p1 p2 p3 p4 => h9ret r σ' ?_ p1 p3 p4)
  obtain ⟨⟨q1, q2, q3, q4, q5, q6, q7, q8, q9, q10⟩, qm⟩ := q
  exact ⟨⟨p0, p2, NN_fx q3 p1 (by intro h9; (try dsimp only at h9) <;> first | exact h9 | omega) (by intro h9; (try dsimp only at h9) <;> first | exact h9 | omega) (by intro h9; (try dsimp only at h9) <;> first | exact h9 | omega) (by intro h9; (try dsimp only at h9) <;> first | exact h9 | omega) (by intro h9; (try dsimp only at h9) <;> first | exact h9 | omega) (fun k => (by intro h9; (try dsimp only at h9) <;> first | exact h9 | omega)) (fun k => (by intro h9; (try dsimp only at h9) <;> first | exact h9 | omega)), by rw [FX_i p1 (id := 1) (k := 3) (by intro h9; (try dsimp only at h9) <;> first | exact h9 | omega) (by intro h9; (try dsimp only at h9) <;> first | exact h9 | omega), FX_i p1 (id := 1) (k := 1) (by intro h9; (try dsimp only at h9) <;> first | exact h9 | omega) (by intro h9; (try dsimp only at h9) <;> first | exact h9 | omega)]; exact q4, by rw [FX_i p1 (id := 17) (k := 3) (by intro h9; (try dsimp only at h9) <;> first | exact h9 | omega) (by intro h9; (try dsimp only at h9) <;> first | exact h9 | omega), FX_i p1 (id := 17) (k := 1) (by intro h9; (try dsimp only at h9) <;> first | exact h9 | omega) (by intro h9; (try dsimp only at h9) <;> first | exact h9 | omega)]; exact q5, p3, by rw [FX_i p1 (id := 17) (k := 9) (by intro h9; (try dsimp only at h9) <;> first | exact h9 | omega) (by intro h9; (try dsimp only at h9) <;> first | exact h9 | omega)]; exact q7, by rw [FX_i p1 (id := 9) (k := 1) (by intro h9; (try dsimp only at h9) <;> first | exact h9 | omega) (by intro h9; (try dsimp only at h9) <;> first | exact h9 | omega)]; exact q8, by rw [FX_i p1 (id := 25) (k := 1) (by intro h9; (try dsimp only at h9) <;> first | exact h9 | omega) (by intro h9; (try dsimp only at h9) <;> first | exact h9 | omega)]; exact q9, FI_fx p1 (by intro h9; (try dsimp only at h9) <;> first | exact h9 | omega) (fun k => (by intro h9; (try dsimp only at h9) <;> first | exact h9 | omega)) q10⟩, IVM_ag (MA_fx p1 (by intro id h9; (try dsimp only at h9) <;> omega) (by intro id k h9; (try dsimp only at h9) <;> first | exact h9.elim | omega)) qm⟩
set_option maxHeartbeats 4000000 in
theorem L3_X11_on {l : Launch} {V : Vx} {a1 : Int32} {a2 : Int32} {σ0 : Sg} {Qk : Int32 → Sg → Prop} (q : INV V σ0) (h9ret : ∀ (r : Int32) (σ' : Sg), INV V σ' → (FX (fun id => id = 34 ∨ id = 35 ∨ id = 36 ∨ id = 37 ∨ id = 38 ∨ id = 39 ∨ id = 40 ∨ id = 47 ∨ id = 48) (fun id k => (id = 33 ∧ k = 1) ∨ (id = 33 ∧ k = 3) ∨ (id = 33 ∧ k = 9) ∨ (id = 33 ∧ k = 10) ∨ (id = 33 ∧ k = 11)) σ0 σ') → Qk r σ') : K_X11_on l V a1 a2 σ0 Qk := by
  refine k_X11_on q.1.1 q.1.2.1 q.1.2.2.2.2.2.1 (fun r σ' p0 p1 p2 => h9ret r σ' ?_ p1)
  exact INV_fx (FX_tr FX_rf p1 (by intro id h9; (try dsimp only at h9) <;> unfold Sf <;> first | exact h9.elim | omega) (by intro id k h9; (try dsimp only at h9) <;> unfold Sf Ff <;> first | exact h9.elim | omega)) p0 q
set_option maxHeartbeats 4000000 in
theorem L3_X11_done {l : Launch} {V : Vx} {σ0 : Sg} {Qk : Int32 → Sg → Prop} (q : INV V σ0) (h9ret : ∀ (r : Int32) (σ' : Sg), INV V σ' → (FX (fun id => id = 34 ∨ id = 35 ∨ id = 36 ∨ id = 37 ∨ id = 38 ∨ id = 39 ∨ id = 40 ∨ id = 47 ∨ id = 48) (fun id k => (id = 33 ∧ k = 1) ∨ (id = 33 ∧ k = 3) ∨ (id = 33 ∧ k = 9) ∨ (id = 33 ∧ k = 10) ∨ (id = 33 ∧ k = 11)) σ0 σ') → Qk r σ') : K_X11_done l V σ0 Qk := by
  refine k_X11_done q.1.1 q.1.2.1 q.1.2.2.2.2.2.1 (fun r σ' p0 p1 p2 => h9ret r σ' ?_ p1)
  exact INV_fx (FX_tr FX_rf p1 (by intro id h9; (try dsimp only at h9) <;> unfold Sf <;> first | exact h9.elim | omega) (by intro id k h9; (try dsimp only at h9) <;> unfold Sf Ff <;> first | exact h9.elim | omega)) p0 q
set_option maxHeartbeats 4000000 in
theorem L3_X11_order {l : Launch} {V : Vx} {a1 : Int32} {a2 : Int32} {σ0 : Sg} {Qk : Int32 → Sg → Prop} (q : INV V σ0) (h9ret : ∀ (r : Int32) (σ' : Sg), INV V σ' → (FX (fun id => id = 34 ∨ id = 35 ∨ id = 36 ∨ id = 37 ∨ id = 38 ∨ id = 39 ∨ id = 40 ∨ id = 47 ∨ id = 48 ∨ id = 66 ∨ id = 67) (fun id k => (id = 33 ∧ k = 1) ∨ (id = 33 ∧ k = 3) ∨ (id = 33 ∧ k = 9) ∨ (id = 33 ∧ k = 10) ∨ (id = 33 ∧ k = 11)) σ0 σ') → Qk r σ') : K_X11_order l V a1 a2 σ0 Qk := by
  refine k_X11_order q.1.1 q.1.2.1 q.1.2.2.2.2.2.1 (fun r σ' p0 p1 p2 => h9ret r σ' ?_ p1)
  exact INV_fx (FX_tr FX_rf p1 (by intro id h9; (try dsimp only at h9) <;> unfold Sf <;> first | exact h9.elim | omega) (by intro id k h9; (try dsimp only at h9) <;> unfold Sf Ff <;> first | exact h9.elim | omega)) p0 q
set_option maxHeartbeats 4000000 in
theorem L3_X11_whets {l : Launch} {V : Vx} {a1 : Int32} {a2 : Int32} {σ0 : Sg} {Qk : Int32 → Sg → Prop} (q : INV V σ0) (h9ret : ∀ (r : Int32) (σ' : Sg), INV V σ' → (FX (fun id => id = 34 ∨ id = 35 ∨ id = 36 ∨ id = 37 ∨ id = 38 ∨ id = 39 ∨ id = 40 ∨ id = 47 ∨ id = 48) (fun id k => (id = 33 ∧ k = 1) ∨ (id = 33 ∧ k = 3) ∨ (id = 33 ∧ k = 9) ∨ (id = 33 ∧ k = 10) ∨ (id = 33 ∧ k = 11)) σ0 σ') → Qk r σ') : K_X11_whets l V a1 a2 σ0 Qk := by
  refine k_X11_whets q.1.1 q.1.2.1 q.1.2.2.2.2.2.1 (fun r σ' p0 p1 p2 => h9ret r σ' ?_ p1)
  exact INV_fx (FX_tr FX_rf p1 (by intro id h9; (try dsimp only at h9) <;> unfold Sf <;> first | exact h9.elim | omega) (by intro id k h9; (try dsimp only at h9) <;> unfold Sf Ff <;> first | exact h9.elim | omega)) p0 q
set_option maxHeartbeats 4000000 in
theorem L3_X11_apart {l : Launch} {V : Vx} {a1 : Int32} {a2 : Int32} {σ0 : Sg} {Qk : Int32 → Sg → Prop} (q : INV V σ0) (h9ret : ∀ (r : Int32) (σ' : Sg), INV V σ' → (FX (fun id => id = 34 ∨ id = 35 ∨ id = 36 ∨ id = 37 ∨ id = 38 ∨ id = 39 ∨ id = 40 ∨ id = 47 ∨ id = 48) (fun id k => (id = 33 ∧ k = 1) ∨ (id = 33 ∧ k = 3) ∨ (id = 33 ∧ k = 9) ∨ (id = 33 ∧ k = 10) ∨ (id = 33 ∧ k = 11)) σ0 σ') → Qk r σ') : K_X11_apart l V a1 a2 σ0 Qk := by
  refine k_X11_apart q.1.1 q.1.2.1 q.1.2.2.2.2.2.1 (fun r σ' p0 p1 p2 => h9ret r σ' ?_ p1)
  exact INV_fx (FX_tr FX_rf p1 (by intro id h9; (try dsimp only at h9) <;> unfold Sf <;> first | exact h9.elim | omega) (by intro id k h9; (try dsimp only at h9) <;> unfold Sf Ff <;> first | exact h9.elim | omega)) p0 q
set_option maxHeartbeats 4000000 in
theorem L3_X11_stop {l : Launch} {V : Vx} {a1 : Int32} {a2 : Int32} {a3 : Int32} {a4 : Int32} {σ0 : Sg} {Qk : Int32 → Sg → Prop} (q : INV V σ0) (h9ret : ∀ (r : Int32) (σ' : Sg), INV V σ' → (FX (fun id => id = 34 ∨ id = 35 ∨ id = 36 ∨ id = 37 ∨ id = 38 ∨ id = 39 ∨ id = 40 ∨ id = 47 ∨ id = 48 ∨ id = 68) (fun id k => (id = 33 ∧ k = 1) ∨ (id = 33 ∧ k = 3) ∨ (id = 33 ∧ k = 9) ∨ (id = 33 ∧ k = 10) ∨ (id = 33 ∧ k = 11)) σ0 σ') → Qk r σ') : K_X11_stop l V a1 a2 a3 a4 σ0 Qk := by
  refine k_X11_stop q.1.1 q.1.2.1 q.1.2.2.2.2.2.1 (fun r σ' p0 p1 p2 => h9ret r σ' ?_ p1)
  exact INV_fx (FX_tr FX_rf p1 (by intro id h9; (try dsimp only at h9) <;> unfold Sf <;> first | exact h9.elim | omega) (by intro id k h9; (try dsimp only at h9) <;> unfold Sf Ff <;> first | exact h9.elim | omega)) p0 q
set_option maxHeartbeats 4000000 in
theorem L3_X11_alone {l : Launch} {V : Vx} {a1 : Int32} {σ0 : Sg} {Qk : Int32 → Sg → Prop} (q : INV V σ0) (h9ret : ∀ (r : Int32) (σ' : Sg), INV V σ' → (FX (fun id => id = 34 ∨ id = 35 ∨ id = 36 ∨ id = 37 ∨ id = 38 ∨ id = 39 ∨ id = 40 ∨ id = 47 ∨ id = 48) (fun id k => (id = 33 ∧ k = 1) ∨ (id = 33 ∧ k = 3) ∨ (id = 33 ∧ k = 9) ∨ (id = 33 ∧ k = 10) ∨ (id = 33 ∧ k = 11)) σ0 σ') → Qk r σ') : K_X11_alone l V a1 σ0 Qk := by
  refine k_X11_alone q.1.1 q.1.2.1 q.1.2.2.2.2.2.1 (fun r σ' p0 p1 p2 => h9ret r σ' ?_ p1)
  exact INV_fx (FX_tr FX_rf p1 (by intro id h9; (try dsimp only at h9) <;> unfold Sf <;> first | exact h9.elim | omega) (by intro id k h9; (try dsimp only at h9) <;> unfold Sf Ff <;> first | exact h9.elim | omega)) p0 q
set_option maxHeartbeats 4000000 in
theorem L3_X11_rest {l : Launch} {V : Vx} {a1 : Int32} {a2 : Int32} {σ0 : Sg} {Qk : Int32 → Sg → Prop} (q : INV V σ0) (h9ret : ∀ (r : Int32) (σ' : Sg), INV V σ' → (FX (fun id => id = 34 ∨ id = 35 ∨ id = 36 ∨ id = 37 ∨ id = 38 ∨ id = 39 ∨ id = 40 ∨ id = 47 ∨ id = 48) (fun id k => (id = 33 ∧ k = 1) ∨ (id = 33 ∧ k = 3) ∨ (id = 33 ∧ k = 9) ∨ (id = 33 ∧ k = 10) ∨ (id = 33 ∧ k = 11)) σ0 σ') → Qk r σ') : K_X11_rest l V a1 a2 σ0 Qk := by
  refine k_X11_rest q.1.1 q.1.2.1 q.1.2.2.2.2.2.1 (fun r σ' p0 p1 p2 => h9ret r σ' ?_ p1)
  exact INV_fx (FX_tr FX_rf p1 (by intro id h9; (try dsimp only at h9) <;> unfold Sf <;> first | exact h9.elim | omega) (by intro id k h9; (try dsimp only at h9) <;> unfold Sf Ff <;> first | exact h9.elim | omega)) p0 q
set_option maxHeartbeats 4000000 in
theorem L3_X11_paused {l : Launch} {V : Vx} {a1 : Int32} {a2 : Int32} {σ0 : Sg} {Qk : Int32 → Sg → Prop} (q : INV V σ0) (h9ret : ∀ (r : Int32) (σ' : Sg), INV V σ' → (FX (fun id => id = 34 ∨ id = 35 ∨ id = 36 ∨ id = 37 ∨ id = 38 ∨ id = 39 ∨ id = 40 ∨ id = 47 ∨ id = 48) (fun id k => (id = 33 ∧ k = 1) ∨ (id = 33 ∧ k = 3) ∨ (id = 33 ∧ k = 9) ∨ (id = 33 ∧ k = 10) ∨ (id = 33 ∧ k = 11)) σ0 σ') → Qk r σ') : K_X11_paused l V a1 a2 σ0 Qk := by
  refine k_X11_paused q.1.1 q.1.2.1 q.1.2.2.2.2.2.1 (fun r σ' p0 p1 p2 => h9ret r σ' ?_ p1)
  exact INV_fx (FX_tr FX_rf p1 (by intro id h9; (try dsimp only at h9) <;> unfold Sf <;> first | exact h9.elim | omega) (by intro id k h9; (try dsimp only at h9) <;> unfold Sf Ff <;> first | exact h9.elim | omega)) p0 q
set_option maxHeartbeats 4000000 in
theorem L3_X11_see {l : Launch} {V : Vx} {a1 : Int32} {a2 : Int32} {a3 : Int32} {σ0 : Sg} {Qk : Int32 → Sg → Prop} (q : INV V σ0) (h9ret : ∀ (r : Int32) (σ' : Sg), INV V σ' → (FX (fun id => id = 10) (fun id k => (id = 9 ∧ k = 1)) σ0 σ') → ((gi σ' 9 1).toInt % 3 = 0) → (SEA r a1 a2 a3 (gi σ0 1 1).toInt ((gi σ0 9 1).toInt / 3) ((gi σ' 9 1).toInt / 3)) → Qk r σ') : K_X11_see l V a1 a2 a3 σ0 Qk := by
  refine kt_X11_see q.1.1 q.1.2.2.2.2.2.2.2.1 (fun r σ' p0 p1 p2 p3 => h9ret r σ' ?_ p1 p2 p3)
  obtain ⟨⟨q1, q2, q3, q4, q5, q6, q7, q8, q9, q10⟩, qm⟩ := q
  exact ⟨⟨p0, NN_fx q2 p1 (by intro h9; (try dsimp only at h9) <;> first | exact h9 | omega) (by intro h9; (try dsimp only at h9) <;> first | exact h9 | omega) (by intro h9; (try dsimp only at h9) <;> first | exact h9 | omega) (by intro h9; (try dsimp only at h9) <;> first | exact h9 | omega) (by intro h9; (try dsimp only at h9) <;> first | exact h9 | omega) (fun k => (by intro h9; (try dsimp only at h9) <;> first | exact h9 | omega)) (fun k => (by intro h9; (try dsimp only at h9) <;> first | exact h9 | omega)), NN_fx q3 p1 (by intro h9; (try dsimp only at h9) <;> first | exact h9 | omega) (by intro h9; (try dsimp only at h9) <;> first | exact h9 | omega) (by intro h9; (try dsimp only at h9) <;> first | exact h9 | omega) (by intro h9; (try dsimp only at h9) <;> first | exact h9 | omega) (by intro h9; (try dsimp only at h9) <;> first | exact h9 | omega) (fun k => (by intro h9; (try dsimp only at h9) <;> first | exact h9 | omega)) (fun k => (by intro h9; (try dsimp only at h9) <;> first | exact h9 | omega)), by rw [FX_i p1 (id := 1) (k := 3) (by intro h9; (try dsimp only at h9) <;> first | exact h9 | omega) (by intro h9; (try dsimp only at h9) <;> first | exact h9 | omega), FX_i p1 (id := 1) (k := 1) (by intro h9; (try dsimp only at h9) <;> first | exact h9 | omega) (by intro h9; (try dsimp only at h9) <;> first | exact h9 | omega)]; exact q4, by rw [FX_i p1 (id := 17) (k := 3) (by intro h9; (try dsimp only at h9) <;> first | exact h9 | omega) (by intro h9; (try dsimp only at h9) <;> first | exact h9 | omega), FX_i p1 (id := 17) (k := 1) (by intro h9; (try dsimp only at h9) <;> first | exact h9 | omega) (by intro h9; (try dsimp only at h9) <;> first | exact h9 | omega)]; exact q5, by rw [FX_i p1 (id := 1) (k := 9) (by intro h9; (try dsimp only at h9) <;> first | exact h9 | omega) (by intro h9; (try dsimp only at h9) <;> first | exact h9 | omega)]; exact q6, by rw [FX_i p1 (id := 17) (k := 9) (by intro h9; (try dsimp only at h9) <;> first | exact h9 | omega) (by intro h9; (try dsimp only at h9) <;> first | exact h9 | omega)]; exact q7, p2, by rw [FX_i p1 (id := 25) (k := 1) (by intro h9; (try dsimp only at h9) <;> first | exact h9 | omega) (by intro h9; (try dsimp only at h9) <;> first | exact h9 | omega)]; exact q9, FI_fx p1 (by intro h9; (try dsimp only at h9) <;> first | exact h9 | omega) (fun k => (by intro h9; (try dsimp only at h9) <;> first | exact h9 | omega)) q10⟩, IVM_ag (MA_fx p1 (by intro id h9; (try dsimp only at h9) <;> omega) (by intro id k h9; (try dsimp only at h9) <;> first | exact h9.elim | omega)) qm⟩
set_option maxHeartbeats 4000000 in
theorem L3_X11_who {l : Launch} {V : Vx} {σ0 : Sg} {Qk : Int32 → Sg → Prop} (q : INV V σ0) (h9ret : ∀ (r : Int32) (σ' : Sg), INV V σ' → (FX (fun id => id = 34 ∨ id = 35 ∨ id = 36 ∨ id = 37 ∨ id = 38 ∨ id = 39 ∨ id = 40 ∨ id = 47 ∨ id = 48) (fun id k => (id = 33 ∧ k = 1) ∨ (id = 33 ∧ k = 3) ∨ (id = 33 ∧ k = 9) ∨ (id = 33 ∧ k = 10) ∨ (id = 33 ∧ k = 11)) σ0 σ') → Qk r σ') : K_X11_who l V σ0 Qk := by
  refine k_X11_who q.1.1 q.1.2.1 q.1.2.2.2.2.2.1 (fun r σ' p0 p1 p2 => h9ret r σ' ?_ p1)
  exact INV_fx (FX_tr FX_rf p1 (by intro id h9; (try dsimp only at h9) <;> unfold Sf <;> first | exact h9.elim | omega) (by intro id k h9; (try dsimp only at h9) <;> unfold Sf Ff <;> first | exact h9.elim | omega)) p0 q
set_option maxHeartbeats 4000000 in
theorem L3_X11_odds {l : Launch} {V : Vx} {a1 : Int32} {a2 : Int32} {a3 : Int32} {σ0 : Sg} {Qk : Int64 → Sg → Prop} (q : INV V σ0) (h9ret : ∀ (r : Int64) (σ' : Sg), INV V σ' → (FX (fun id => id = 34 ∨ id = 35 ∨ id = 36 ∨ id = 37 ∨ id = 38 ∨ id = 39 ∨ id = 40 ∨ id = 47 ∨ id = 48) (fun id k => (id = 33 ∧ k = 1) ∨ (id = 33 ∧ k = 3) ∨ (id = 33 ∧ k = 9) ∨ (id = 33 ∧ k = 10) ∨ (id = 33 ∧ k = 11)) σ0 σ') → Qk r σ') : K_X11_odds l V a1 a2 a3 σ0 Qk := by
  refine k_X11_odds q.1.1 q.1.2.1 q.1.2.2.2.2.2.1 (fun r σ' p0 p1 p2 => h9ret r σ' ?_ p1)
  exact INV_fx (FX_tr FX_rf p1 (by intro id h9; (try dsimp only at h9) <;> unfold Sf <;> first | exact h9.elim | omega) (by intro id k h9; (try dsimp only at h9) <;> unfold Sf Ff <;> first | exact h9.elim | omega)) p0 q
set_option maxHeartbeats 4000000 in
theorem L3_X11_mean {l : Launch} {V : Vx} {a1 : Int32} {a2 : Int32} {σ0 : Sg} {Qk : Int64 → Sg → Prop} (q : INV V σ0) (h9ret : ∀ (r : Int64) (σ' : Sg), INV V σ' → (FX (fun id => id = 34 ∨ id = 35 ∨ id = 36 ∨ id = 37 ∨ id = 38 ∨ id = 39 ∨ id = 40 ∨ id = 47 ∨ id = 48) (fun id k => (id = 33 ∧ k = 1) ∨ (id = 33 ∧ k = 3) ∨ (id = 33 ∧ k = 9) ∨ (id = 33 ∧ k = 10) ∨ (id = 33 ∧ k = 11)) σ0 σ') → Qk r σ') : K_X11_mean l V a1 a2 σ0 Qk := by
  refine k_X11_mean q.1.1 q.1.2.1 q.1.2.2.2.2.2.1 (fun r σ' p0 p1 p2 => h9ret r σ' ?_ p1)
  exact INV_fx (FX_tr FX_rf p1 (by intro id h9; (try dsimp only at h9) <;> unfold Sf <;> first | exact h9.elim | omega) (by intro id k h9; (try dsimp only at h9) <;> unfold Sf Ff <;> first | exact h9.elim | omega)) p0 q
set_option maxHeartbeats 4000000 in
theorem L3_X11_plan {l : Launch} {V : Vx} {a1 : Int32} {σ0 : Sg} {Qk : Int32 → Sg → Prop} (q : INV V σ0) (h9ret : ∀ (r : Int32) (σ' : Sg), INV V σ' → (FX (fun id => id = 12) (fun id k => (id = 11 ∧ k = 1)) σ0 σ') → (PBA r a1 (gi σ0 11 1) (gi σ' 11 1) (2) 10) → Qk r σ') : K_X11_plan l V a1 σ0 Qk := by
  refine kt_X11_plan q.1.1 (fun r σ' p0 p1 p2 => h9ret r σ' ?_ p1 p2)
  exact INV_fx (FX_tr FX_rf p1 (by intro id h9; (try dsimp only at h9) <;> unfold Sf <;> first | exact h9.elim | omega) (by intro id k h9; (try dsimp only at h9) <;> unfold Sf Ff <;> first | exact h9.elim | omega)) p0 q
set_option maxHeartbeats 4000000 in
theorem L3_X11_planned {l : Launch} {V : Vx} {σ0 : Sg} {Qk : Int32 → Sg → Prop} (q : INV V σ0) (h9ret : ∀ (r : Int32) (σ' : Sg), INV V σ' → (FX (fun id => id = 34 ∨ id = 35 ∨ id = 36 ∨ id = 37 ∨ id = 38 ∨ id = 39 ∨ id = 40 ∨ id = 47 ∨ id = 48) (fun id k => (id = 33 ∧ k = 1) ∨ (id = 33 ∧ k = 3) ∨ (id = 33 ∧ k = 9) ∨ (id = 33 ∧ k = 10) ∨ (id = 33 ∧ k = 11)) σ0 σ') → Qk r σ') : K_X11_planned l V σ0 Qk := by
  refine k_X11_planned q.1.1 q.1.2.1 q.1.2.2.2.2.2.1 (fun r σ' p0 p1 p2 => h9ret r σ' ?_ p1)
  exact INV_fx (FX_tr FX_rf p1 (by intro id h9; (try dsimp only at h9) <;> unfold Sf <;> first | exact h9.elim | omega) (by intro id k h9; (try dsimp only at h9) <;> unfold Sf Ff <;> first | exact h9.elim | omega)) p0 q
set_option maxHeartbeats 4000000 in
theorem L3_X11_book {l : Launch} {V : Vx} {a1 : Int32} {σ0 : Sg} {Qk : Int32 → Sg → Prop} (q : INV V σ0) (h9ret : ∀ (r : Int32) (σ' : Sg), INV V σ' → (FX (fun id => id = 14) (fun id k => (id = 13 ∧ k = 1)) σ0 σ') → (PBA r a1 (gi σ0 13 1) (gi σ' 13 1) ((gi σ0 1 1).toInt - 1) 8) → Qk r σ') : K_X11_book l V a1 σ0 Qk := by
  refine kt_X11_book q.1.1 (fun r σ' p0 p1 p2 => h9ret r σ' ?_ p1 p2)
  exact INV_fx (FX_tr FX_rf p1 (by intro id h9; (try dsimp only at h9) <;> unfold Sf <;> first | exact h9.elim | omega) (by intro id k h9; (try dsimp only at h9) <;> unfold Sf Ff <;> first | exact h9.elim | omega)) p0 q
set_option maxHeartbeats 4000000 in
theorem L3_X11_looked {l : Launch} {V : Vx} {σ0 : Sg} {Qk : Int32 → Sg → Prop} (q : INV V σ0) (h9ret : ∀ (r : Int32) (σ' : Sg), INV V σ' → (FX (fun id => id = 34 ∨ id = 35 ∨ id = 36 ∨ id = 37 ∨ id = 38 ∨ id = 39 ∨ id = 40 ∨ id = 47 ∨ id = 48) (fun id k => (id = 33 ∧ k = 1) ∨ (id = 33 ∧ k = 3) ∨ (id = 33 ∧ k = 9) ∨ (id = 33 ∧ k = 10) ∨ (id = 33 ∧ k = 11)) σ0 σ') → Qk r σ') : K_X11_looked l V σ0 Qk := by
  refine k_X11_looked q.1.1 q.1.2.1 q.1.2.2.2.2.2.1 (fun r σ' p0 p1 p2 => h9ret r σ' ?_ p1)
  exact INV_fx (FX_tr FX_rf p1 (by intro id h9; (try dsimp only at h9) <;> unfold Sf <;> first | exact h9.elim | omega) (by intro id k h9; (try dsimp only at h9) <;> unfold Sf Ff <;> first | exact h9.elim | omega)) p0 q
set_option maxHeartbeats 4000000 in
theorem L3_X11_judge {l : Launch} {V : Vx} {a1 : Int32} {a2 : Int32} {σ0 : Sg} {Qk : Int32 → Sg → Prop} (q : INV V σ0) (h9ret : ∀ (r : Int32) (σ' : Sg), INV V σ' → (FX (fun id => False) (fun _ _ => False) σ0 σ') → Qk r σ') : K_X11_judge l V a1 a2 σ0 Qk := by
  refine k_X11_judge q.1.1 (fun r σ' p0 p1 => h9ret r σ' ?_ p1)
  exact INV_fx (FX_tr FX_rf p1 (by intro id h9; (try dsimp only at h9) <;> unfold Sf <;> first | exact h9.elim | omega) (by intro id k h9; (try dsimp only at h9) <;> unfold Sf Ff <;> first | exact h9.elim | omega)) p0 q
set_option maxHeartbeats 4000000 in
theorem L3_X11_image {l : Launch} {V : Vx} {σ0 : Sg} {Qk : Int32 → Sg → Prop} (q : INV V σ0) (h9ret : ∀ (r : Int32) (σ' : Sg), INV V σ' → (FX (fun id => id = 18 ∨ id = 19 ∨ id = 20 ∨ id = 21 ∨ id = 22 ∨ id = 23 ∨ id = 24 ∨ id = 26 ∨ id = 28 ∨ id = 30) (fun id k => (id = 0 ∧ k = 3) ∨ (id = 17 ∧ k = 1) ∨ (id = 17 ∧ k = 3) ∨ (id = 17 ∧ k = 9) ∨ (id = 17 ∧ k = 10) ∨ (id = 17 ∧ k = 11) ∨ (id = 25 ∧ k = 1) ∨ (id = 27 ∧ k = 1) ∨ (id = 29 ∧ k = 1)) σ0 σ') → ((gi σ' 17 1).toInt = (gi σ0 1 1).toInt) → ((gi σ' 17 3).toInt = (gi σ0 1 3).toInt) → ((gi σ' 17 9).toInt = (gi σ0 1 9).toInt) → ((gi σ' 25 1).toInt = (gi σ0 9 1).toInt) → (CPY σ0 σ' 17 1) → ((gi σ' 27 1).toInt = (gi σ0 11 1).toInt) → ((gi σ' 29 1).toInt = (gi σ0 13 1).toInt) → ((gi σ' 0 3).toInt = 1) → (r.toInt = (gi σ0 1 1).toInt) → Qk r σ') : K_X11_image l V σ0 Qk := by
  refine kt_X11_image q.1.1 q.1.2.1 (fun r σ' p0 p1 p2 p3 p4 p5 p6 p7 p8 p9 p10 p11 p12 => h9ret r σ' ?_ p1 p4 p5 p6 p7 p8 p9 p10 p11 p12)
  obtain ⟨⟨q1, q2, q3, q4, q5, q6, q7, q8, q9, q10⟩, qm⟩ := q
  exact ⟨⟨p0, p2, p3, by rw [FX_i p1 (id := 1) (k := 3) (by intro h9; (try dsimp only at h9) <;> first | exact h9 | omega) (by intro h9; (try dsimp only at h9) <;> first | exact h9 | omega), FX_i p1 (id := 1) (k := 1) (by intro h9; (try dsimp only at h9) <;> first | exact h9 | omega) (by intro h9; (try dsimp only at h9) <;> first | exact h9 | omega)]; exact q4, by rw [p5, p4]; exact q4, by rw [FX_i p1 (id := 1) (k := 9) (by intro h9; (try dsimp only at h9) <;> first | exact h9 | omega) (by intro h9; (try dsimp only at h9) <;> first | exact h9 | omega)]; exact q6, by rw [p6]; exact q6, by rw [FX_i p1 (id := 9) (k := 1) (by intro h9; (try dsimp only at h9) <;> first | exact h9 | omega) (by intro h9; (try dsimp only at h9) <;> first | exact h9 | omega)]; exact q8, by rw [p7]; exact q8, FI_fx p1 (by intro h9; (try dsimp only at h9) <;> first | exact h9 | omega) (fun k => (by intro h9; (try dsimp only at h9) <;> first | exact h9 | omega)) q10⟩, IVM_ag (MA_fx p1 (by intro id h9; (try dsimp only at h9) <;> omega) (by intro id k h9; (try dsimp only at h9) <;> first | exact h9.elim | omega)) qm⟩
set_option maxHeartbeats 4000000 in
theorem L3_X11_undo {l : Launch} {V : Vx} {σ0 : Sg} {Qk : Int32 → Sg → Prop} (q : INV V σ0) (h9ret : ∀ (r : Int32) (σ' : Sg), INV V σ' → (FX (fun id => id = 10 ∨ id = 12 ∨ id = 14 ∨ id = 2 ∨ id = 3 ∨ id = 4 ∨ id = 5 ∨ id = 6 ∨ id = 7 ∨ id = 8) (fun id k => (id = 1 ∧ k = 1) ∨ (id = 1 ∧ k = 3) ∨ (id = 1 ∧ k = 9) ∨ (id = 1 ∧ k = 10) ∨ (id = 1 ∧ k = 11) ∨ (id = 11 ∧ k = 1) ∨ (id = 13 ∧ k = 1) ∨ (id = 9 ∧ k = 1)) σ0 σ') → ((gi σ' 1 9).toInt ≤ 9999) → ((gi σ' 1 3).toInt = (gi σ' 1 1).toInt) → ((gi σ' 9 1).toInt % 3 = 0) → ((gi σ0 0 3).toInt ≠ 0 → CPY σ0 σ' 1 17) → ((gi σ0 0 3).toInt = 0 → σ' = σ0) → (((gi σ0 0 3).toInt = 0 → r.toInt = -3 ∧ (gi σ' 1 1).toInt = (gi σ0 1 1).toInt ∧ (gi σ' 11 1).toInt = (gi σ0 11 1).toInt ∧ (gi σ' 13 1).toInt = (gi σ0 13 1).toInt ∧ (gi σ' 1 9).toInt = (gi σ0 1 9).toInt ∧ (gi σ' 9 1).toInt = (gi σ0 9 1).toInt) ∧ ((gi σ0 0 3).toInt ≠ 0 → r.toInt = (gi σ0 17 1).toInt ∧ (gi σ' 1 1).toInt = (gi σ0 17 1).toInt ∧ (gi σ' 11 1).toInt = (gi σ0 27 1).toInt ∧ (gi σ' 13 1).toInt = (gi σ0 29 1).toInt ∧ (gi σ' 1 9).toInt = (gi σ0 17 9).toInt ∧ (gi σ' 9 1).toInt = (gi σ0 25 1).toInt)) → Qk r σ') : K_X11_undo l V σ0 Qk := by
  refine kt_X11_undo q.1.1 q.1.2.1 q.1.2.2.1 q.1.2.2.2.2.2.1 q.1.2.2.2.2.2.2.1 q.1.2.2.2.1 q.1.2.2.2.2.1 q.1.2.2.2.2.2.2.2.1 q.1.2.2.2.2.2.2.2.2.1 (fun r σ' p0 p1 p2 p3 p4 p5 p6 p7 p8 p9 => h9ret r σ' ?_ p1 p4 p5 p6 p7 p8 p9)
  obtain ⟨⟨q1, q2, q3, q4, q5, q6, q7, q8, q9, q10⟩, qm⟩ := q
  exact ⟨⟨p0, p2, p3, p5, by rw [FX_i p1 (id := 17) (k := 3) (by intro h9; (try dsimp only at h9) <;> first | exact h9 | omega) (by intro h9; (try dsimp only at h9) <;> first | exact h9 | omega), FX_i p1 (id := 17) (k := 1) (by intro h9; (try dsimp only at h9) <;> first | exact h9 | omega) (by intro h9; (try dsimp only at h9) <;> first | exact h9 | omega)]; exact q5, p4, by rw [FX_i p1 (id := 17) (k := 9) (by intro h9; (try dsimp only at h9) <;> first | exact h9 | omega) (by intro h9; (try dsimp only at h9) <;> first | exact h9 | omega)]; exact q7, p6, by rw [FX_i p1 (id := 25) (k := 1) (by intro h9; (try dsimp only at h9) <;> first | exact h9 | omega) (by intro h9; (try dsimp only at h9) <;> first | exact h9 | omega)]; exact q9, FI_fx p1 (by intro h9; (try dsimp only at h9) <;> first | exact h9 | omega) (fun k => (by intro h9; (try dsimp only at h9) <;> first | exact h9 | omega)) q10⟩, IVM_ag (MA_fx p1 (by intro id h9; (try dsimp only at h9) <;> omega) (by intro id k h9; (try dsimp only at h9) <;> first | exact h9.elim | omega)) qm⟩
set_option maxHeartbeats 4000000 in
theorem L3_X11_act {l : Launch} {V : Vx} {a1 : Int32} {a2 : Int32} {a3 : Int32} {σ0 : Sg} {Qk : Int32 → Sg → Prop} (q : INV V σ0) (h9ret : ∀ (r : Int32) (σ' : Sg), INV V σ' → (FX (fun id => id = 65) (fun id k => (id = 64 ∧ k = 1)) σ0 σ') → (F_X11_act a1 a2 a3 σ0 = (r, σ')) → Qk r σ') : K_X11_act l V a1 a2 a3 σ0 Qk := by
  refine kF_X11_act q.1.1 q.1.2.1 (fun r σ' p0 p1 p2 p3 => h9ret r σ' ?_ p1 p3)
  exact INV_fx (FX_tr FX_rf p1 (by intro id h9; (try dsimp only at h9) <;> unfold Sf <;> first | exact h9.elim | omega) (by intro id k h9; (try dsimp only at h9) <;> unfold Sf Ff <;> first | exact h9.elim | omega)) p0 q
set_option maxHeartbeats 4000000 in
theorem L3_X11_trace {l : Launch} {V : Vx} {a1 : Int32} {σ0 : Sg} {Qk : Int32 → Sg → Prop} (q : INV V σ0) (h9ret : ∀ (r : Int32) (σ' : Sg), INV V σ' → (FX (fun id => False) (fun _ _ => False) σ0 σ') → (F_X11_trace a1 σ0 = (r, σ')) → Qk r σ') : K_X11_trace l V a1 σ0 Qk := by
  refine kF_X11_trace q.1.1 (fun r σ' p0 p1 p2 => h9ret r σ' ?_ p1 p2)
  exact INV_fx (FX_tr FX_rf p1 (by intro id h9; (try dsimp only at h9) <;> unfold Sf <;> first | exact h9.elim | omega) (by intro id k h9; (try dsimp only at h9) <;> unfold Sf Ff <;> first | exact h9.elim | omega)) p0 q
set_option maxHeartbeats 4000000 in
theorem L3_X11_taken {l : Launch} {V : Vx} {a1 : Int32} {a2 : Int32} {σ0 : Sg} {Qk : Int32 → Sg → Prop} (q : INV V σ0) (h9ret : ∀ (r : Int32) (σ' : Sg), INV V σ' → (FX (fun id => False) (fun _ _ => False) σ0 σ') → (F_X11_taken a1 a2 σ0 = (r, σ')) → Qk r σ') : K_X11_taken l V a1 a2 σ0 Qk := by
  refine kF_X11_taken q.1.1 q.1.2.1 (fun r σ' p0 p1 p2 p3 => h9ret r σ' ?_ p1 p3)
  exact INV_fx (FX_tr FX_rf p1 (by intro id h9; (try dsimp only at h9) <;> unfold Sf <;> first | exact h9.elim | omega) (by intro id k h9; (try dsimp only at h9) <;> unfold Sf Ff <;> first | exact h9.elim | omega)) p0 q
set_option maxHeartbeats 4000000 in
theorem L3_X11_count {l : Launch} {V : Vx} {a1 : Int32} {σ0 : Sg} {Qk : Int32 → Sg → Prop} (q : INV V σ0) (h9ret : ∀ (r : Int32) (σ' : Sg), INV V σ' → (FX (fun id => False) (fun _ _ => False) σ0 σ') → Qk r σ') : K_X11_count l V a1 σ0 Qk := by
  refine k_X11_count q.1.1 (fun r σ' p0 p1 => h9ret r σ' ?_ p1)
  exact INV_fx (FX_tr FX_rf p1 (by intro id h9; (try dsimp only at h9) <;> unfold Sf <;> first | exact h9.elim | omega) (by intro id k h9; (try dsimp only at h9) <;> unfold Sf Ff <;> first | exact h9.elim | omega)) p0 q
set_option maxHeartbeats 4000000 in
theorem L3_X11_tape {l : Launch} {V : Vx} {a1 : Int32} {a2 : Int32} {a3 : Int32} {σ0 : Sg} {Qk : Int32 → Sg → Prop} (q : INV V σ0) (h9ret : ∀ (r : Int32) (σ' : Sg), INV V σ' → (FX (fun id => (53 ≤ id ∧ id ≤ 63)) (fun id k => (52 ≤ id ∧ id ≤ 62)) σ0 σ') → (F_X11_tape a1 a2 a3 σ0 = (r, σ')) → Qk r σ') : K_X11_tape l V a1 a2 a3 σ0 Qk := by
  refine kF_X11_tape q.1.1 (fun r σ' p0 p1 p2 => h9ret r σ' ?_ p1 p2)
  exact INV_fx (FX_tr FX_rf p1 (by intro id h9; (try dsimp only at h9) <;> unfold Sf <;> first | exact h9.elim | omega) (by intro id k h9; (try dsimp only at h9) <;> unfold Sf Ff <;> first | exact h9.elim | omega)) p0 q
set_option maxHeartbeats 4000000 in
theorem L3_X11_item {l : Launch} {V : Vx} {a1 : Int32} {a2 : Int32} {a3 : Int64} {σ0 : Sg} {Qk : Int32 → Sg → Prop} (q : INV V σ0) (h9ret : ∀ (r : Int32) (σ' : Sg), INV V σ' → (FX (fun id => (53 ≤ id ∧ id ≤ 63)) (fun _ _ => False) σ0 σ') → (F_X11_item a1 a2 a3 σ0 = (r, σ')) → Qk r σ') : K_X11_item l V a1 a2 a3 σ0 Qk := by
  refine kF_X11_item q.1.1 (fun r σ' p0 p1 p2 => h9ret r σ' ?_ p1 p2)
  exact INV_fx (FX_tr FX_rf p1 (by intro id h9; (try dsimp only at h9) <;> unfold Sf <;> first | exact h9.elim | omega) (by intro id k h9; (try dsimp only at h9) <;> unfold Sf Ff <;> first | exact h9.elim | omega)) p0 q
set_option maxHeartbeats 4000000 in
theorem L3_X11_read {l : Launch} {V : Vx} {a1 : Int32} {a2 : Int32} {σ0 : Sg} {Qk : Int64 → Sg → Prop} (q : INV V σ0) (h9ret : ∀ (r : Int64) (σ' : Sg), INV V σ' → (FX (fun id => False) (fun _ _ => False) σ0 σ') → (F_X11_read a1 a2 σ0 = (r, σ')) → Qk r σ') : K_X11_read l V a1 a2 σ0 Qk := by
  refine kF_X11_read q.1.1 (fun r σ' p0 p1 p2 => h9ret r σ' ?_ p1 p2)
  exact INV_fx (FX_tr FX_rf p1 (by intro id h9; (try dsimp only at h9) <;> unfold Sf <;> first | exact h9.elim | omega) (by intro id k h9; (try dsimp only at h9) <;> unfold Sf Ff <;> first | exact h9.elim | omega)) p0 q
set_option maxHeartbeats 4000000 in
theorem L3_X11_shift {l : Launch} {V : Vx} {a1 : Int32} {a2 : Int32} {a3 : Int32} {a4 : Int32} {a5 : Int32} {σ0 : Sg} {Qk : Int32 → Sg → Prop} (q : INV V σ0) (h9ret : ∀ (r : Int32) (σ' : Sg), INV V σ' → (FX (fun id => (53 ≤ id ∧ id ≤ 63)) (fun _ _ => False) σ0 σ') → (F_X11_shift a1 a2 a3 a4 a5 σ0 = (r, σ')) → Qk r σ') : K_X11_shift l V a1 a2 a3 a4 a5 σ0 Qk := by
  refine kF_X11_shift q.1.1 (fun r σ' p0 p1 p2 => h9ret r σ' ?_ p1 p2)
  exact INV_fx (FX_tr FX_rf p1 (by intro id h9; (try dsimp only at h9) <;> unfold Sf <;> first | exact h9.elim | omega) (by intro id k h9; (try dsimp only at h9) <;> unfold Sf Ff <;> first | exact h9.elim | omega)) p0 q
set_option maxHeartbeats 4000000 in
theorem L3_X12_mower {l : Launch} {V : Vx} {a1 : Int32} {a2 : Int32} {σ0 : Sg} {Qk : Int32 → Sg → Prop} (q : INV V σ0) (h9ret : ∀ (r : Int32) (σ' : Sg), INV V σ' → (Fr [74, 103, 104, 105, 106, 107, 108, 109, 110] [0, 2] σ0 σ') → ((gi σ' 74 0).toInt = (gi σ0 74 0).toInt ∨ (gi σ' 74 0).toInt = (gi σ0 74 0).toInt + 1) → (((a1.toInt < 0 ∨ 6 < a1.toInt) → r.toInt = -1 ∧ (gi σ' 74 0).toInt = (gi σ0 74 0).toInt) ∧ (0 ≤ a1.toInt → a1.toInt ≤ 6 → ((a2.toInt < 0 ∨ 9 < a2.toInt) → r.toInt = -2 ∧ (gi σ' 74 0).toInt = (gi σ0 74 0).toInt) ∧ (0 ≤ a2.toInt → a2.toInt ≤ 9 → (6 ≤ (gi σ0 74 0).toInt → r.toInt = -4 ∧ (gi σ' 74 0).toInt = (gi σ0 74 0).toInt) ∧ ((gi σ0 74 0).toInt < 6 → r.toInt = (gi σ0 74 0).toInt ∧ (gi σ' 74 0).toInt = (gi σ0 74 0).toInt + 1)))) → (F_X12_mower a1 a2 σ0 = (r, σ')) → Qk r σ') : K_X12_mower l V a1 a2 σ0 Qk := by
  refine kF_X12_mower q.2.1 q.2.2.2.2.1 (fun r σ' p0 p1 p2 p3 p4 p5 => h9ret r σ' ?_ p1 p3 p4 p5)
  refine INV_m p1 (by decide) q ?_
  obtain ⟨-, q1, q2, q3, q4, q5, q6, q7⟩ := q
  exact ⟨p0, by rw [p1.2.1 12 (by decide), p1.2.1 11 (by decide)]; exact q2, by rw [p1.2.1 50 (by decide), p1.2.1 11 (by decide)]; exact q3, p2, PLI_fr q5 p1 (by decide) (by decide), by rw [p1.2.1 1 (by decide)]; exact q6, by rw [p1.2.1 52 (by decide)]; exact q7⟩
set_option maxHeartbeats 4000000 in
theorem L3_X12_of {l : Launch} {V : Vx} {a1 : Int32} {a2 : Int32} {σ0 : Sg} {Qk : Int32 → Sg → Prop} (q : INV V σ0) (h9ret : ∀ (r : Int32) (σ' : Sg), INV V σ' → (Fr [74, 129] [30] σ0 σ') → Qk r σ') : K_X12_of l V a1 a2 σ0 Qk := by
  refine k_X12_of q.2.1 q.2.2.2.2.1 (fun r σ' p0 p1 => h9ret r σ' ?_ p1)
  refine INV_m p1 (by decide) q ?_
  obtain ⟨-, q1, q2, q3, q4, q5, q6, q7⟩ := q
  exact ⟨p0, by rw [p1.2.1 12 (by decide), p1.2.1 11 (by decide)]; exact q2, by rw [p1.2.1 50 (by decide), p1.2.1 11 (by decide)]; exact q3, PL_fr q4 p1 (by decide) (by decide), PLI_fr q5 p1 (by decide) (by decide), by rw [p1.2.1 1 (by decide)]; exact q6, by rw [p1.2.1 52 (by decide)]; exact q7⟩
set_option maxHeartbeats 4000000 in
theorem L3_X12_set {l : Launch} {V : Vx} {a1 : Int32} {a2 : Int32} {a3 : Int32} {σ0 : Sg} {Qk : Int32 → Sg → Prop} (q : INV V σ0) (h9ret : ∀ (r : Int32) (σ' : Sg), INV V σ' → (Fr [105, 106, 107, 108] [] σ0 σ') → Qk r σ') : K_X12_set l V a1 a2 a3 σ0 Qk := by
  refine k_X12_set q.2.1 (fun r σ' p0 p1 => h9ret r σ' ?_ p1)
  refine INV_m p1 (by decide) q ?_
  obtain ⟨-, q1, q2, q3, q4, q5, q6, q7⟩ := q
  exact ⟨p0, by rw [p1.2.1 12 (by decide), p1.2.1 11 (by decide)]; exact q2, by rw [p1.2.1 50 (by decide), p1.2.1 11 (by decide)]; exact q3, PL_fr q4 p1 (by decide) (by decide), PLI_fr q5 p1 (by decide) (by decide), by rw [p1.2.1 1 (by decide)]; exact q6, by rw [p1.2.1 52 (by decide)]; exact q7⟩
set_option maxHeartbeats 4000000 in
theorem L3_X12_row {l : Launch} {V : Vx} {a1 : Int32} {a2 : Int32} {a3 : Int32} {σ0 : Sg} {Qk : Int32 → Sg → Prop} (q : INV V σ0) (h9ret : ∀ (r : Int32) (σ' : Sg), INV V σ' → (Fr [109] [] σ0 σ') → (F_X12_row a1 a2 a3 σ0 = (r, σ')) → Qk r σ') : K_X12_row l V a1 a2 a3 σ0 Qk := by
  refine kF_X12_row q.2.1 (fun r σ' p0 p1 p2 => h9ret r σ' ?_ p1 p2)
  refine INV_m p1 (by decide) q ?_
  obtain ⟨-, q1, q2, q3, q4, q5, q6, q7⟩ := q
  exact ⟨p0, by rw [p1.2.1 12 (by decide), p1.2.1 11 (by decide)]; exact q2, by rw [p1.2.1 50 (by decide), p1.2.1 11 (by decide)]; exact q3, PL_fr q4 p1 (by decide) (by decide), PLI_fr q5 p1 (by decide) (by decide), by rw [p1.2.1 1 (by decide)]; exact q6, by rw [p1.2.1 52 (by decide)]; exact q7⟩
set_option maxHeartbeats 4000000 in
theorem L3_X12_place {l : Launch} {V : Vx} {a1 : Int32} {a2 : Int32} {σ0 : Sg} {Qk : Int32 → Sg → Prop} (q : INV V σ0) (h9ret : ∀ (r : Int32) (σ' : Sg), INV V σ' → (Fr [110] [] σ0 σ') → (F_X12_place a1 a2 σ0 = (r, σ')) → Qk r σ') : K_X12_place l V a1 a2 σ0 Qk := by
  refine kF_X12_place q.2.1 q.2.2.2.2.1 (fun r σ' p0 p1 p2 p3 => h9ret r σ' ?_ p1 p3)
  refine INV_m p1 (by decide) q ?_
  obtain ⟨-, q1, q2, q3, q4, q5, q6, q7⟩ := q
  exact ⟨p0, by rw [p1.2.1 12 (by decide), p1.2.1 11 (by decide)]; exact q2, by rw [p1.2.1 50 (by decide), p1.2.1 11 (by decide)]; exact q3, p2, PLI_fr q5 p1 (by decide) (by decide), by rw [p1.2.1 1 (by decide)]; exact q6, by rw [p1.2.1 52 (by decide)]; exact q7⟩
set_option maxHeartbeats 4000000 in
theorem L3_X12_feed {l : Launch} {V : Vx} {a1 : Int32} {σ0 : Sg} {Qk : Int32 → Sg → Prop} (q : INV V σ0) (h9ret : ∀ (r : Int32) (σ' : Sg), INV V σ' → (Fr [74, 116] [13] σ0 σ') → Qk r σ') : K_X12_feed l V a1 σ0 Qk := by
  refine k_X12_feed q.2.1 (fun r σ' p0 p1 => h9ret r σ' ?_ p1)
  refine INV_m p1 (by decide) q ?_
  obtain ⟨-, q1, q2, q3, q4, q5, q6, q7⟩ := q
  exact ⟨p0, by rw [p1.2.1 12 (by decide), p1.2.1 11 (by decide)]; exact q2, by rw [p1.2.1 50 (by decide), p1.2.1 11 (by decide)]; exact q3, PL_fr q4 p1 (by decide) (by decide), PLI_fr q5 p1 (by decide) (by decide), by rw [p1.2.1 1 (by decide)]; exact q6, by rw [p1.2.1 52 (by decide)]; exact q7⟩
set_option maxHeartbeats 4000000 in
theorem L3_X12_field {l : Launch} {V : Vx} {σ0 : Sg} {Qk : Int32 → Sg → Prop} (q : INV V σ0) (h9ret : ∀ (r : Int32) (σ' : Sg), INV V σ' → (Fr [74, 117, 118, 119, 120, 121, 122, 123] [11, 12, 13, 14, 15, 24, 25, 26] σ0 σ') → ((gi σ' 74 12).toInt < (gi σ' 74 11).toInt) → ((gi σ' 74 50).toInt < (gi σ' 74 11).toInt) → Qk r σ') : K_X12_field l V σ0 Qk := by
  refine k_X12_field q.2.1 q.2.2.1 q.2.2.2.1 (fun r σ' p0 p1 p2 p3 => h9ret r σ' ?_ p1 p2 p3)
  refine INV_m p1 (by decide) q ?_
  obtain ⟨-, q1, q2, q3, q4, q5, q6, q7⟩ := q
  exact ⟨p0, p2, p3, PL_fr q4 p1 (by decide) (by decide), PLI_fr q5 p1 (by decide) (by decide), by rw [p1.2.1 1 (by decide)]; exact q6, by rw [p1.2.1 52 (by decide)]; exact q7⟩
set_option maxHeartbeats 4000000 in
theorem L3_X12_told {l : Launch} {V : Vx} {a1 : Int32} {σ0 : Sg} {Qk : Int32 → Sg → Prop} (q : INV V σ0) (h9ret : ∀ (r : Int32) (σ' : Sg), INV V σ' → (Fr [] [] σ0 σ') → Qk r σ') : K_X12_told l V a1 σ0 Qk := by
  refine k_X12_told q.2.1 (fun r σ' p0 p1 => h9ret r σ' ?_ p1)
  refine INV_m p1 (by decide) q ?_
  obtain ⟨-, q1, q2, q3, q4, q5, q6, q7⟩ := q
  exact ⟨p0, by rw [p1.2.1 12 (by decide), p1.2.1 11 (by decide)]; exact q2, by rw [p1.2.1 50 (by decide), p1.2.1 11 (by decide)]; exact q3, PL_fr q4 p1 (by decide) (by decide), PLI_fr q5 p1 (by decide) (by decide), by rw [p1.2.1 1 (by decide)]; exact q6, by rw [p1.2.1 52 (by decide)]; exact q7⟩
set_option maxHeartbeats 4000000 in
theorem L3_X12_minute {l : Launch} {V : Vx} {σ0 : Sg} {Qk : Int32 → Sg → Prop} (q : INV V σ0) (h9ret : ∀ (r : Int32) (σ' : Sg), INV V σ' → (Fr [74, 105, 106, 107, 108, 129, 131, 132] [1, 30] σ0 σ') → ((gi σ' 74 1).toInt ≤ 9999) → (MNA (gi σ0 74 1) (gi σ' 74 1)) → Qk r σ') : K_X12_minute l V σ0 Qk := by
  refine kt_X12_minute q.2.1 q.2.2.2.2.2.2.1 (fun r σ' p0 p1 p2 p3 => h9ret r σ' ?_ p1 p2 p3)
  refine INV_m p1 (by decide) q ?_
  obtain ⟨-, q1, q2, q3, q4, q5, q6, q7⟩ := q
  exact ⟨p0, by rw [p1.2.1 12 (by decide), p1.2.1 11 (by decide)]; exact q2, by rw [p1.2.1 50 (by decide), p1.2.1 11 (by decide)]; exact q3, PL_fr q4 p1 (by decide) (by decide), PLI_fr q5 p1 (by decide) (by decide), p2, by rw [p1.2.1 52 (by decide)]; exact q7⟩
set_option maxHeartbeats 4000000 in
theorem L3_X12_whet {l : Launch} {V : Vx} {σ0 : Sg} {Qk : Int32 → Sg → Prop} (q : INV V σ0) (h9ret : ∀ (r : Int32) (σ' : Sg), INV V σ' → (Fr [74, 106, 107, 108] [1] σ0 σ') → ((gi σ' 74 1).toInt ≤ 9999) → (WHA r (gi σ0 74 1) (gi σ' 74 1)) → Qk r σ') : K_X12_whet l V σ0 Qk := by
  refine kt_X12_whet q.2.1 q.2.2.2.2.2.2.1 (fun r σ' p0 p1 p2 p3 => h9ret r σ' ?_ p1 p2 p3)
  refine INV_m p1 (by decide) q ?_
  obtain ⟨-, q1, q2, q3, q4, q5, q6, q7⟩ := q
  exact ⟨p0, by rw [p1.2.1 12 (by decide), p1.2.1 11 (by decide)]; exact q2, by rw [p1.2.1 50 (by decide), p1.2.1 11 (by decide)]; exact q3, PL_fr q4 p1 (by decide) (by decide), PLI_fr q5 p1 (by decide) (by decide), p2, by rw [p1.2.1 52 (by decide)]; exact q7⟩
set_option maxHeartbeats 4000000 in
theorem L3_X12_pause {l : Launch} {V : Vx} {a1 : Int32} {σ0 : Sg} {Qk : Int32 → Sg → Prop} (q : INV V σ0) (h9ret : ∀ (r : Int32) (σ' : Sg), INV V σ' → (Fr [74, 107, 108] [1] σ0 σ') → ((gi σ' 74 1).toInt ≤ 9999) → (PAA r a1 (gi σ0 74 1) (gi σ' 74 1)) → Qk r σ') : K_X12_pause l V a1 σ0 Qk := by
  refine kt_X12_pause q.2.1 q.2.2.2.2.2.2.1 (fun r σ' p0 p1 p2 p3 => h9ret r σ' ?_ p1 p2 p3)
  refine INV_m p1 (by decide) q ?_
  obtain ⟨-, q1, q2, q3, q4, q5, q6, q7⟩ := q
  exact ⟨p0, by rw [p1.2.1 12 (by decide), p1.2.1 11 (by decide)]; exact q2, by rw [p1.2.1 50 (by decide), p1.2.1 11 (by decide)]; exact q3, PL_fr q4 p1 (by decide) (by decide), PLI_fr q5 p1 (by decide) (by decide), p2, by rw [p1.2.1 52 (by decide)]; exact q7⟩
set_option maxHeartbeats 4000000 in
theorem L3_X12_on {l : Launch} {V : Vx} {a1 : Int32} {a2 : Int32} {σ0 : Sg} {Qk : Int32 → Sg → Prop} (q : INV V σ0) (h9ret : ∀ (r : Int32) (σ' : Sg), INV V σ' → (Fr [74, 105, 106, 107, 108, 129, 131, 132, 134, 135, 136, 137] [1, 30, 33] σ0 σ') → ((gi σ' 74 1).toInt = (gi σ0 74 1).toInt) → Qk r σ') : K_X12_on l V a1 a2 σ0 Qk := by
  refine k_X12_on q.2.1 q.2.2.2.2.2.2.1 (fun r σ' p0 p1 p2 => h9ret r σ' ?_ p1 p2)
  refine INV_m p1 (by decide) q ?_
  obtain ⟨-, q1, q2, q3, q4, q5, q6, q7⟩ := q
  exact ⟨p0, by rw [p1.2.1 12 (by decide), p1.2.1 11 (by decide)]; exact q2, by rw [p1.2.1 50 (by decide), p1.2.1 11 (by decide)]; exact q3, PL_fr q4 p1 (by decide) (by decide), PLI_fr q5 p1 (by decide) (by decide), by rw [p2]; exact q6, by rw [p1.2.1 52 (by decide)]; exact q7⟩
set_option maxHeartbeats 4000000 in
theorem L3_X12_done {l : Launch} {V : Vx} {σ0 : Sg} {Qk : Int32 → Sg → Prop} (q : INV V σ0) (h9ret : ∀ (r : Int32) (σ' : Sg), INV V σ' → (Fr [74, 105, 106, 107, 108, 129, 131, 132, 134, 135, 136, 137] [1, 30, 33] σ0 σ') → ((gi σ' 74 1).toInt = (gi σ0 74 1).toInt) → Qk r σ') : K_X12_done l V σ0 Qk := by
  refine k_X12_done q.2.1 q.2.2.2.2.2.2.1 (fun r σ' p0 p1 p2 => h9ret r σ' ?_ p1 p2)
  refine INV_m p1 (by decide) q ?_
  obtain ⟨-, q1, q2, q3, q4, q5, q6, q7⟩ := q
  exact ⟨p0, by rw [p1.2.1 12 (by decide), p1.2.1 11 (by decide)]; exact q2, by rw [p1.2.1 50 (by decide), p1.2.1 11 (by decide)]; exact q3, PL_fr q4 p1 (by decide) (by decide), PLI_fr q5 p1 (by decide) (by decide), by rw [p2]; exact q6, by rw [p1.2.1 52 (by decide)]; exact q7⟩
set_option maxHeartbeats 4000000 in
theorem L3_X12_order {l : Launch} {V : Vx} {a1 : Int32} {a2 : Int32} {σ0 : Sg} {Qk : Int32 → Sg → Prop} (q : INV V σ0) (h9ret : ∀ (r : Int32) (σ' : Sg), INV V σ' → (Fr [74, 105, 106, 107, 108, 110, 129, 131, 132, 134, 135, 136, 137, 138, 139] [1, 30, 33] σ0 σ') → ((gi σ' 74 1).toInt = (gi σ0 74 1).toInt) → (CD σ0 σ' 110 110 6) → Qk r σ') : K_X12_order l V a1 a2 σ0 Qk := by
  refine k_X12_order q.2.1 q.2.2.2.2.2.2.1 (fun r σ' p0 p1 p2 p3 => h9ret r σ' ?_ p1 p2 p3)
  refine INV_m p1 (by decide) q ?_
  obtain ⟨-, q1, q2, q3, q4, q5, q6, q7⟩ := q
  exact ⟨p0, by rw [p1.2.1 12 (by decide), p1.2.1 11 (by decide)]; exact q2, by rw [p1.2.1 50 (by decide), p1.2.1 11 (by decide)]; exact q3, PL_cd q1 q4 p3 (by rw [p1.2.1 0 (by decide)]), PLI_fr q5 p1 (by decide) (by decide), by rw [p2]; exact q6, by rw [p1.2.1 52 (by decide)]; exact q7⟩
set_option maxHeartbeats 4000000 in
theorem L3_X12_whets {l : Launch} {V : Vx} {a1 : Int32} {a2 : Int32} {σ0 : Sg} {Qk : Int32 → Sg → Prop} (q : INV V σ0) (h9ret : ∀ (r : Int32) (σ' : Sg), INV V σ' → (Fr [74, 105, 106, 107, 108, 129, 131, 132, 134, 135, 136, 137] [1, 30, 33] σ0 σ') → ((gi σ' 74 1).toInt = (gi σ0 74 1).toInt) → Qk r σ') : K_X12_whets l V a1 a2 σ0 Qk := by
  refine k_X12_whets q.2.1 q.2.2.2.2.2.2.1 (fun r σ' p0 p1 p2 => h9ret r σ' ?_ p1 p2)
  refine INV_m p1 (by decide) q ?_
  obtain ⟨-, q1, q2, q3, q4, q5, q6, q7⟩ := q
  exact ⟨p0, by rw [p1.2.1 12 (by decide), p1.2.1 11 (by decide)]; exact q2, by rw [p1.2.1 50 (by decide), p1.2.1 11 (by decide)]; exact q3, PL_fr q4 p1 (by decide) (by decide), PLI_fr q5 p1 (by decide) (by decide), by rw [p2]; exact q6, by rw [p1.2.1 52 (by decide)]; exact q7⟩
set_option maxHeartbeats 4000000 in
theorem L3_X12_apart {l : Launch} {V : Vx} {a1 : Int32} {a2 : Int32} {σ0 : Sg} {Qk : Int32 → Sg → Prop} (q : INV V σ0) (h9ret : ∀ (r : Int32) (σ' : Sg), INV V σ' → (Fr [74, 105, 106, 107, 108, 129, 131, 132, 134, 135, 136, 137] [1, 28, 30, 33] σ0 σ') → ((gi σ' 74 1).toInt = (gi σ0 74 1).toInt) → Qk r σ') : K_X12_apart l V a1 a2 σ0 Qk := by
  refine k_X12_apart q.2.1 q.2.2.2.2.2.2.1 (fun r σ' p0 p1 p2 => h9ret r σ' ?_ p1 p2)
  refine INV_m p1 (by decide) q ?_
  obtain ⟨-, q1, q2, q3, q4, q5, q6, q7⟩ := q
  exact ⟨p0, by rw [p1.2.1 12 (by decide), p1.2.1 11 (by decide)]; exact q2, by rw [p1.2.1 50 (by decide), p1.2.1 11 (by decide)]; exact q3, PL_fr q4 p1 (by decide) (by decide), PLI_fr q5 p1 (by decide) (by decide), by rw [p2]; exact q6, by rw [p1.2.1 52 (by decide)]; exact q7⟩
set_option maxHeartbeats 4000000 in
theorem L3_X12_stop {l : Launch} {V : Vx} {a1 : Int32} {a2 : Int32} {a3 : Int32} {a4 : Int32} {σ0 : Sg} {Qk : Int32 → Sg → Prop} (q : INV V σ0) (h9ret : ∀ (r : Int32) (σ' : Sg), INV V σ' → (Fr [74, 105, 106, 107, 108, 129, 131, 132, 134, 135, 136, 137, 140] [1, 30, 33] σ0 σ') → ((gi σ' 74 1).toInt = (gi σ0 74 1).toInt) → Qk r σ') : K_X12_stop l V a1 a2 a3 a4 σ0 Qk := by
  refine k_X12_stop q.2.1 q.2.2.2.2.2.2.1 (fun r σ' p0 p1 p2 => h9ret r σ' ?_ p1 p2)
  refine INV_m p1 (by decide) q ?_
  obtain ⟨-, q1, q2, q3, q4, q5, q6, q7⟩ := q
  exact ⟨p0, by rw [p1.2.1 12 (by decide), p1.2.1 11 (by decide)]; exact q2, by rw [p1.2.1 50 (by decide), p1.2.1 11 (by decide)]; exact q3, PL_fr q4 p1 (by decide) (by decide), PLI_fr q5 p1 (by decide) (by decide), by rw [p2]; exact q6, by rw [p1.2.1 52 (by decide)]; exact q7⟩
set_option maxHeartbeats 4000000 in
theorem L3_X12_alone {l : Launch} {V : Vx} {a1 : Int32} {σ0 : Sg} {Qk : Int32 → Sg → Prop} (q : INV V σ0) (h9ret : ∀ (r : Int32) (σ' : Sg), INV V σ' → (Fr [74, 105, 106, 107, 108, 110, 129, 131, 132, 134, 135, 136, 137, 138] [1, 2, 30, 33] σ0 σ') → ((gi σ' 74 1).toInt = (gi σ0 74 1).toInt) → (CD σ0 σ' 110 110 6) → Qk r σ') : K_X12_alone l V a1 σ0 Qk := by
  refine kl_X12_alone q.2.1 q.2.2.2.2.2.2.1 (fun r σ' p0 p1 p2 p3 => h9ret r σ' ?_ p1 p2 p3)
  refine INV_m p1 (by decide) q ?_
  obtain ⟨-, q1, q2, q3, q4, q5, q6, q7⟩ := q
  exact ⟨p0, by rw [p1.2.1 12 (by decide), p1.2.1 11 (by decide)]; exact q2, by rw [p1.2.1 50 (by decide), p1.2.1 11 (by decide)]; exact q3, PL_cd q1 q4 p3 (by rw [p1.2.1 0 (by decide)]), PLI_fr q5 p1 (by decide) (by decide), by rw [p2]; exact q6, by rw [p1.2.1 52 (by decide)]; exact q7⟩
set_option maxHeartbeats 4000000 in
theorem L3_X12_rest {l : Launch} {V : Vx} {a1 : Int32} {a2 : Int32} {σ0 : Sg} {Qk : Int32 → Sg → Prop} (q : INV V σ0) (h9ret : ∀ (r : Int32) (σ' : Sg), INV V σ' → (Fr [74, 105, 106, 107, 108, 129, 131, 132, 134, 135, 136, 137] [1, 30, 33] σ0 σ') → ((gi σ' 74 1).toInt = (gi σ0 74 1).toInt) → Qk r σ') : K_X12_rest l V a1 a2 σ0 Qk := by
  refine k_X12_rest q.2.1 q.2.2.2.2.2.2.1 (fun r σ' p0 p1 p2 => h9ret r σ' ?_ p1 p2)
  refine INV_m p1 (by decide) q ?_
  obtain ⟨-, q1, q2, q3, q4, q5, q6, q7⟩ := q
  exact ⟨p0, by rw [p1.2.1 12 (by decide), p1.2.1 11 (by decide)]; exact q2, by rw [p1.2.1 50 (by decide), p1.2.1 11 (by decide)]; exact q3, PL_fr q4 p1 (by decide) (by decide), PLI_fr q5 p1 (by decide) (by decide), by rw [p2]; exact q6, by rw [p1.2.1 52 (by decide)]; exact q7⟩
set_option maxHeartbeats 4000000 in
theorem L3_X12_paused {l : Launch} {V : Vx} {a1 : Int32} {a2 : Int32} {σ0 : Sg} {Qk : Int32 → Sg → Prop} (q : INV V σ0) (h9ret : ∀ (r : Int32) (σ' : Sg), INV V σ' → (Fr [74, 105, 106, 107, 108, 129, 131, 132, 134, 135, 136, 137] [1, 30, 33] σ0 σ') → ((gi σ' 74 1).toInt = (gi σ0 74 1).toInt) → Qk r σ') : K_X12_paused l V a1 a2 σ0 Qk := by
  refine k_X12_paused q.2.1 q.2.2.2.2.2.2.1 (fun r σ' p0 p1 p2 => h9ret r σ' ?_ p1 p2)
  refine INV_m p1 (by decide) q ?_
  obtain ⟨-, q1, q2, q3, q4, q5, q6, q7⟩ := q
  exact ⟨p0, by rw [p1.2.1 12 (by decide), p1.2.1 11 (by decide)]; exact q2, by rw [p1.2.1 50 (by decide), p1.2.1 11 (by decide)]; exact q3, PL_fr q4 p1 (by decide) (by decide), PLI_fr q5 p1 (by decide) (by decide), by rw [p2]; exact q6, by rw [p1.2.1 52 (by decide)]; exact q7⟩
set_option maxHeartbeats 4000000 in
theorem L3_X12_see {l : Launch} {V : Vx} {a1 : Int32} {a2 : Int32} {a3 : Int32} {σ0 : Sg} {Qk : Int32 → Sg → Prop} (q : INV V σ0) (h9ret : ∀ (r : Int32) (σ' : Sg), INV V σ' → (Fr [74, 142, 143, 144] [41] σ0 σ') → (SEA r a1 a2 a3 (gi σ0 74 0).toInt (gi σ0 74 41).toInt (gi σ' 74 41).toInt) → Qk r σ') : K_X12_see l V a1 a2 a3 σ0 Qk := by
  refine kt_X12_see q.2.1 (fun r σ' p0 p1 p2 => h9ret r σ' ?_ p1 p2)
  refine INV_m p1 (by decide) q ?_
  obtain ⟨-, q1, q2, q3, q4, q5, q6, q7⟩ := q
  exact ⟨p0, by rw [p1.2.1 12 (by decide), p1.2.1 11 (by decide)]; exact q2, by rw [p1.2.1 50 (by decide), p1.2.1 11 (by decide)]; exact q3, PL_fr q4 p1 (by decide) (by decide), PLI_fr q5 p1 (by decide) (by decide), by rw [p1.2.1 1 (by decide)]; exact q6, by rw [p1.2.1 52 (by decide)]; exact q7⟩
set_option maxHeartbeats 4000000 in
theorem L3_X12_who {l : Launch} {V : Vx} {σ0 : Sg} {Qk : Int32 → Sg → Prop} (q : INV V σ0) (h9ret : ∀ (r : Int32) (σ' : Sg), INV V σ' → (Fr [74, 105, 106, 107, 108, 129, 131, 132, 134, 135, 136, 137] [1, 30, 33] σ0 σ') → ((gi σ' 74 1).toInt = (gi σ0 74 1).toInt) → Qk r σ') : K_X12_who l V σ0 Qk := by
  refine k_X12_who q.2.1 q.2.2.2.2.2.2.1 (fun r σ' p0 p1 p2 => h9ret r σ' ?_ p1 p2)
  refine INV_m p1 (by decide) q ?_
  obtain ⟨-, q1, q2, q3, q4, q5, q6, q7⟩ := q
  exact ⟨p0, by rw [p1.2.1 12 (by decide), p1.2.1 11 (by decide)]; exact q2, by rw [p1.2.1 50 (by decide), p1.2.1 11 (by decide)]; exact q3, PL_fr q4 p1 (by decide) (by decide), PLI_fr q5 p1 (by decide) (by decide), by rw [p2]; exact q6, by rw [p1.2.1 52 (by decide)]; exact q7⟩
set_option maxHeartbeats 4000000 in
theorem L3_X12_odds {l : Launch} {V : Vx} {a1 : Int32} {a2 : Int32} {a3 : Int32} {σ0 : Sg} {Qk : Int64 → Sg → Prop} (q : INV V σ0) (h9ret : ∀ (r : Int64) (σ' : Sg), INV V σ' → (Fr [74, 105, 106, 107, 108, 129, 131, 132, 134, 135, 136, 137] [1, 30, 33] σ0 σ') → ((gi σ' 74 1).toInt = (gi σ0 74 1).toInt) → Qk r σ') : K_X12_odds l V a1 a2 a3 σ0 Qk := by
  refine k_X12_odds q.2.1 q.2.2.2.2.2.2.1 (fun r σ' p0 p1 p2 => h9ret r σ' ?_ p1 p2)
  refine INV_m p1 (by decide) q ?_
  obtain ⟨-, q1, q2, q3, q4, q5, q6, q7⟩ := q
  exact ⟨p0, by rw [p1.2.1 12 (by decide), p1.2.1 11 (by decide)]; exact q2, by rw [p1.2.1 50 (by decide), p1.2.1 11 (by decide)]; exact q3, PL_fr q4 p1 (by decide) (by decide), PLI_fr q5 p1 (by decide) (by decide), by rw [p2]; exact q6, by rw [p1.2.1 52 (by decide)]; exact q7⟩
set_option maxHeartbeats 4000000 in
theorem L3_X12_mean {l : Launch} {V : Vx} {a1 : Int32} {a2 : Int32} {σ0 : Sg} {Qk : Int64 → Sg → Prop} (q : INV V σ0) (h9ret : ∀ (r : Int64) (σ' : Sg), INV V σ' → (Fr [74, 105, 106, 107, 108, 129, 131, 132, 134, 135, 136, 137] [1, 30, 33] σ0 σ') → ((gi σ' 74 1).toInt = (gi σ0 74 1).toInt) → Qk r σ') : K_X12_mean l V a1 a2 σ0 Qk := by
  refine k_X12_mean q.2.1 q.2.2.2.2.2.2.1 (fun r σ' p0 p1 p2 => h9ret r σ' ?_ p1 p2)
  refine INV_m p1 (by decide) q ?_
  obtain ⟨-, q1, q2, q3, q4, q5, q6, q7⟩ := q
  exact ⟨p0, by rw [p1.2.1 12 (by decide), p1.2.1 11 (by decide)]; exact q2, by rw [p1.2.1 50 (by decide), p1.2.1 11 (by decide)]; exact q3, PL_fr q4 p1 (by decide) (by decide), PLI_fr q5 p1 (by decide) (by decide), by rw [p2]; exact q6, by rw [p1.2.1 52 (by decide)]; exact q7⟩
set_option maxHeartbeats 4000000 in
theorem L3_X12_plan {l : Launch} {V : Vx} {a1 : Int32} {σ0 : Sg} {Qk : Int32 → Sg → Prop} (q : INV V σ0) (h9ret : ∀ (r : Int32) (σ' : Sg), INV V σ' → (Fr [74, 147] [45] σ0 σ') → (PBA r a1 (gi σ0 74 45) (gi σ' 74 45) (2) 10) → Qk r σ') : K_X12_plan l V a1 σ0 Qk := by
  refine kt_X12_plan q.2.1 (fun r σ' p0 p1 p2 => h9ret r σ' ?_ p1 p2)
  refine INV_m p1 (by decide) q ?_
  obtain ⟨-, q1, q2, q3, q4, q5, q6, q7⟩ := q
  exact ⟨p0, by rw [p1.2.1 12 (by decide), p1.2.1 11 (by decide)]; exact q2, by rw [p1.2.1 50 (by decide), p1.2.1 11 (by decide)]; exact q3, PL_fr q4 p1 (by decide) (by decide), PLI_fr q5 p1 (by decide) (by decide), by rw [p1.2.1 1 (by decide)]; exact q6, by rw [p1.2.1 52 (by decide)]; exact q7⟩
set_option maxHeartbeats 4000000 in
theorem L3_X12_planned {l : Launch} {V : Vx} {σ0 : Sg} {Qk : Int32 → Sg → Prop} (q : INV V σ0) (h9ret : ∀ (r : Int32) (σ' : Sg), INV V σ' → (Fr [74, 105, 106, 107, 108, 129, 131, 132, 134, 135, 136, 137] [1, 30, 33] σ0 σ') → ((gi σ' 74 1).toInt = (gi σ0 74 1).toInt) → Qk r σ') : K_X12_planned l V σ0 Qk := by
  refine k_X12_planned q.2.1 q.2.2.2.2.2.2.1 (fun r σ' p0 p1 p2 => h9ret r σ' ?_ p1 p2)
  refine INV_m p1 (by decide) q ?_
  obtain ⟨-, q1, q2, q3, q4, q5, q6, q7⟩ := q
  exact ⟨p0, by rw [p1.2.1 12 (by decide), p1.2.1 11 (by decide)]; exact q2, by rw [p1.2.1 50 (by decide), p1.2.1 11 (by decide)]; exact q3, PL_fr q4 p1 (by decide) (by decide), PLI_fr q5 p1 (by decide) (by decide), by rw [p2]; exact q6, by rw [p1.2.1 52 (by decide)]; exact q7⟩
set_option maxHeartbeats 4000000 in
theorem L3_X12_book {l : Launch} {V : Vx} {a1 : Int32} {σ0 : Sg} {Qk : Int32 → Sg → Prop} (q : INV V σ0) (h9ret : ∀ (r : Int32) (σ' : Sg), INV V σ' → (Fr [74, 148] [46] σ0 σ') → (PBA r a1 (gi σ0 74 46) (gi σ' 74 46) ((gi σ0 74 0).toInt - 1) 8) → Qk r σ') : K_X12_book l V a1 σ0 Qk := by
  refine kt_X12_book q.2.1 (fun r σ' p0 p1 p2 => h9ret r σ' ?_ p1 p2)
  refine INV_m p1 (by decide) q ?_
  obtain ⟨-, q1, q2, q3, q4, q5, q6, q7⟩ := q
  exact ⟨p0, by rw [p1.2.1 12 (by decide), p1.2.1 11 (by decide)]; exact q2, by rw [p1.2.1 50 (by decide), p1.2.1 11 (by decide)]; exact q3, PL_fr q4 p1 (by decide) (by decide), PLI_fr q5 p1 (by decide) (by decide), by rw [p1.2.1 1 (by decide)]; exact q6, by rw [p1.2.1 52 (by decide)]; exact q7⟩
set_option maxHeartbeats 4000000 in
theorem L3_X12_looked {l : Launch} {V : Vx} {σ0 : Sg} {Qk : Int32 → Sg → Prop} (q : INV V σ0) (h9ret : ∀ (r : Int32) (σ' : Sg), INV V σ' → (Fr [74, 105, 106, 107, 108, 129, 131, 132, 134, 135, 136, 137] [1, 30, 33] σ0 σ') → ((gi σ' 74 1).toInt = (gi σ0 74 1).toInt) → Qk r σ') : K_X12_looked l V σ0 Qk := by
  refine k_X12_looked q.2.1 q.2.2.2.2.2.2.1 (fun r σ' p0 p1 p2 => h9ret r σ' ?_ p1 p2)
  refine INV_m p1 (by decide) q ?_
  obtain ⟨-, q1, q2, q3, q4, q5, q6, q7⟩ := q
  exact ⟨p0, by rw [p1.2.1 12 (by decide), p1.2.1 11 (by decide)]; exact q2, by rw [p1.2.1 50 (by decide), p1.2.1 11 (by decide)]; exact q3, PL_fr q4 p1 (by decide) (by decide), PLI_fr q5 p1 (by decide) (by decide), by rw [p2]; exact q6, by rw [p1.2.1 52 (by decide)]; exact q7⟩
set_option maxHeartbeats 4000000 in
theorem L3_X12_judge {l : Launch} {V : Vx} {a1 : Int32} {a2 : Int32} {σ0 : Sg} {Qk : Int32 → Sg → Prop} (q : INV V σ0) (h9ret : ∀ (r : Int32) (σ' : Sg), INV V σ' → (Fr [] [] σ0 σ') → Qk r σ') : K_X12_judge l V a1 a2 σ0 Qk := by
  refine k_X12_judge q.2.1 (fun r σ' p0 p1 => h9ret r σ' ?_ p1)
  refine INV_m p1 (by decide) q ?_
  obtain ⟨-, q1, q2, q3, q4, q5, q6, q7⟩ := q
  exact ⟨p0, by rw [p1.2.1 12 (by decide), p1.2.1 11 (by decide)]; exact q2, by rw [p1.2.1 50 (by decide), p1.2.1 11 (by decide)]; exact q3, PL_fr q4 p1 (by decide) (by decide), PLI_fr q5 p1 (by decide) (by decide), by rw [p1.2.1 1 (by decide)]; exact q6, by rw [p1.2.1 52 (by decide)]; exact q7⟩
set_option maxHeartbeats 4000000 in
theorem L3_X12_image {l : Launch} {V : Vx} {σ0 : Sg} {Qk : Int32 → Sg → Prop} (q : INV V σ0) (h9ret : ∀ (r : Int32) (σ' : Sg), INV V σ' → (Fr [74, 156, 157, 158, 159, 160, 161, 162, 163, 164, 165, 166, 167, 168] [49, 50, 51, 52, 53, 54, 55] σ0 σ') → ((gi σ' 74 51).toInt = (gi σ0 74 0).toInt) → ((gi σ' 74 52).toInt = (gi σ0 74 1).toInt) → ((gi σ' 74 50).toInt = (gi σ0 74 12).toInt) → ((gi σ' 74 54).toInt = (gi σ0 74 45).toInt) → ((gi σ' 74 55).toInt = (gi σ0 74 46).toInt) → ((gi σ' 74 49).toInt = 1) → (r.toInt = (gi σ0 74 0).toInt) → ((gi σ' 74 53).toInt = (gi σ0 74 41).toInt) → (F_X12_image σ0 = (r, σ')) → Qk r σ') : K_X12_image l V σ0 Qk := by
  refine kF_X12_image q.2.1 q.2.2.2.2.1 (fun r σ' p0 p1 p2 p3 p4 p5 p6 p7 p8 p9 p10 p11 => h9ret r σ' ?_ p1 p2 p3 p4 p6 p7 p8 p9 p10 p11)
  refine INV_m p1 (by decide) q ?_
  obtain ⟨-, q1, q2, q3, q4, q5, q6, q7⟩ := q
  exact ⟨p0, by rw [p1.2.1 12 (by decide), p1.2.1 11 (by decide)]; exact q2, by rw [p4, p1.2.1 11 (by decide)]; exact q2, PL_fr q4 p1 (by decide) (by decide), p5, by rw [p1.2.1 1 (by decide)]; exact q6, by rw [p3]; exact q6⟩
set_option maxHeartbeats 4000000 in
theorem L3_X12_undo {l : Launch} {V : Vx} {σ0 : Sg} {Qk : Int32 → Sg → Prop} (q : INV V σ0) (h9ret : ∀ (r : Int32) (σ' : Sg), INV V σ' → (Fr [74, 103, 104, 105, 106, 107, 108, 109, 110, 142, 143, 144, 147, 148] [0, 1, 2, 12, 41, 45, 46] σ0 σ') → ((gi σ' 74 1).toInt ≤ 9999) → ((gi σ' 74 12).toInt < (gi σ' 74 11).toInt) → (((gi σ0 74 49).toInt = 0 → r.toInt = -3 ∧ (gi σ' 74 0).toInt = (gi σ0 74 0).toInt ∧ (gi σ' 74 45).toInt = (gi σ0 74 45).toInt ∧ (gi σ' 74 46).toInt = (gi σ0 74 46).toInt ∧ (gi σ' 74 1).toInt = (gi σ0 74 1).toInt ∧ (gi σ' 74 41).toInt = (gi σ0 74 41).toInt) ∧ ((gi σ0 74 49).toInt ≠ 0 → r.toInt = (gi σ0 74 51).toInt ∧ (gi σ' 74 0).toInt = (gi σ0 74 51).toInt ∧ (gi σ' 74 45).toInt = (gi σ0 74 54).toInt ∧ (gi σ' 74 46).toInt = (gi σ0 74 55).toInt ∧ (gi σ' 74 1).toInt = (gi σ0 74 52).toInt ∧ (gi σ' 74 41).toInt = (gi σ0 74 53).toInt)) → (F_X12_undo σ0 = (r, σ')) → Qk r σ') : K_X12_undo l V σ0 Qk := by
  refine kF_X12_undo q.2.1 q.2.2.2.2.1 q.2.2.2.2.2.1 q.2.2.2.2.2.2.1 q.2.2.2.2.2.2.2 q.2.2.1 q.2.2.2.1 (fun r σ' p0 p1 p2 p3 p4 p5 p6 => h9ret r σ' ?_ p1 p3 p4 p5 p6)
  refine INV_m p1 (by decide) q ?_
  obtain ⟨-, q1, q2, q3, q4, q5, q6, q7⟩ := q
  exact ⟨p0, p4, by rw [p1.2.1 50 (by decide), p1.2.1 11 (by decide)]; exact q3, p2, PLI_fr q5 p1 (by decide) (by decide), p3, by rw [p1.2.1 52 (by decide)]; exact q7⟩
set_option maxHeartbeats 4000000 in
theorem L3_X12_act {l : Launch} {V : Vx} {a1 : Int32} {a2 : Int32} {a3 : Int32} {σ0 : Sg} {Qk : Int32 → Sg → Prop} (q : INV V σ0) (h9ret : ∀ (r : Int32) (σ' : Sg), INV V σ' → (Fr [74, 170] [69] σ0 σ') → (F_X12_act a1 a2 a3 σ0 = (r, σ')) → Qk r σ') : K_X12_act l V a1 a2 a3 σ0 Qk := by
  refine kF_X12_act q.2.1 (fun r σ' p0 p1 p2 => h9ret r σ' ?_ p1 p2)
  refine INV_m p1 (by decide) q ?_
  obtain ⟨-, q1, q2, q3, q4, q5, q6, q7⟩ := q
  exact ⟨p0, by rw [p1.2.1 12 (by decide), p1.2.1 11 (by decide)]; exact q2, by rw [p1.2.1 50 (by decide), p1.2.1 11 (by decide)]; exact q3, PL_fr q4 p1 (by decide) (by decide), PLI_fr q5 p1 (by decide) (by decide), by rw [p1.2.1 1 (by decide)]; exact q6, by rw [p1.2.1 52 (by decide)]; exact q7⟩
set_option maxHeartbeats 4000000 in
theorem L3_X12_trace {l : Launch} {V : Vx} {a1 : Int32} {σ0 : Sg} {Qk : Int32 → Sg → Prop} (q : INV V σ0) (h9ret : ∀ (r : Int32) (σ' : Sg), INV V σ' → (Fr [] [] σ0 σ') → (F_X12_trace a1 σ0 = (r, σ')) → Qk r σ') : K_X12_trace l V a1 σ0 Qk := by
  refine kF_X12_trace q.2.1 (fun r σ' p0 p1 p2 => h9ret r σ' ?_ p1 p2)
  refine INV_m p1 (by decide) q ?_
  obtain ⟨-, q1, q2, q3, q4, q5, q6, q7⟩ := q
  exact ⟨p0, by rw [p1.2.1 12 (by decide), p1.2.1 11 (by decide)]; exact q2, by rw [p1.2.1 50 (by decide), p1.2.1 11 (by decide)]; exact q3, PL_fr q4 p1 (by decide) (by decide), PLI_fr q5 p1 (by decide) (by decide), by rw [p1.2.1 1 (by decide)]; exact q6, by rw [p1.2.1 52 (by decide)]; exact q7⟩
set_option maxHeartbeats 4000000 in
theorem L3_X12_taken {l : Launch} {V : Vx} {a1 : Int32} {a2 : Int32} {σ0 : Sg} {Qk : Int32 → Sg → Prop} (q : INV V σ0) (h9ret : ∀ (r : Int32) (σ' : Sg), INV V σ' → (Fr [] [] σ0 σ') → (F_X12_taken a1 a2 σ0 = (r, σ')) → Qk r σ') : K_X12_taken l V a1 a2 σ0 Qk := by
  refine kF_X12_taken q.2.1 (fun r σ' p0 p1 p2 => h9ret r σ' ?_ p1 p2)
  refine INV_m p1 (by decide) q ?_
  obtain ⟨-, q1, q2, q3, q4, q5, q6, q7⟩ := q
  exact ⟨p0, by rw [p1.2.1 12 (by decide), p1.2.1 11 (by decide)]; exact q2, by rw [p1.2.1 50 (by decide), p1.2.1 11 (by decide)]; exact q3, PL_fr q4 p1 (by decide) (by decide), PLI_fr q5 p1 (by decide) (by decide), by rw [p1.2.1 1 (by decide)]; exact q6, by rw [p1.2.1 52 (by decide)]; exact q7⟩
set_option maxHeartbeats 4000000 in
theorem L3_X12_count {l : Launch} {V : Vx} {a1 : Int32} {σ0 : Sg} {Qk : Int32 → Sg → Prop} (q : INV V σ0) (h9ret : ∀ (r : Int32) (σ' : Sg), INV V σ' → (Fr [] [] σ0 σ') → Qk r σ') : K_X12_count l V a1 σ0 Qk := by
  refine k_X12_count q.2.1 (fun r σ' p0 p1 => h9ret r σ' ?_ p1)
  refine INV_m p1 (by decide) q ?_
  obtain ⟨-, q1, q2, q3, q4, q5, q6, q7⟩ := q
  exact ⟨p0, by rw [p1.2.1 12 (by decide), p1.2.1 11 (by decide)]; exact q2, by rw [p1.2.1 50 (by decide), p1.2.1 11 (by decide)]; exact q3, PL_fr q4 p1 (by decide) (by decide), PLI_fr q5 p1 (by decide) (by decide), by rw [p1.2.1 1 (by decide)]; exact q6, by rw [p1.2.1 52 (by decide)]; exact q7⟩
set_option maxHeartbeats 4000000 in
theorem L3_X12_tape {l : Launch} {V : Vx} {a1 : Int32} {a2 : Int32} {a3 : Int32} {σ0 : Sg} {Qk : Int32 → Sg → Prop} (q : INV V σ0) (h9ret : ∀ (r : Int32) (σ' : Sg), INV V σ' → (Fr [171, 172, 173] [] σ0 σ') → (F_X12_tape a1 a2 a3 σ0 = (r, σ')) → Qk r σ') : K_X12_tape l V a1 a2 a3 σ0 Qk := by
  refine kF_X12_tape q.2.1 (fun r σ' p0 p1 p2 => h9ret r σ' ?_ p1 p2)
  refine INV_m p1 (by decide) q ?_
  obtain ⟨-, q1, q2, q3, q4, q5, q6, q7⟩ := q
  exact ⟨p0, by rw [p1.2.1 12 (by decide), p1.2.1 11 (by decide)]; exact q2, by rw [p1.2.1 50 (by decide), p1.2.1 11 (by decide)]; exact q3, PL_fr q4 p1 (by decide) (by decide), PLI_fr q5 p1 (by decide) (by decide), by rw [p1.2.1 1 (by decide)]; exact q6, by rw [p1.2.1 52 (by decide)]; exact q7⟩
set_option maxHeartbeats 4000000 in
theorem L3_X12_item {l : Launch} {V : Vx} {a1 : Int32} {a2 : Int32} {a3 : Int64} {σ0 : Sg} {Qk : Int32 → Sg → Prop} (q : INV V σ0) (h9ret : ∀ (r : Int32) (σ' : Sg), INV V σ' → (Fr [173] [] σ0 σ') → (F_X12_item a1 a2 a3 σ0 = (r, σ')) → Qk r σ') : K_X12_item l V a1 a2 a3 σ0 Qk := by
  refine kF_X12_item q.2.1 (fun r σ' p0 p1 p2 => h9ret r σ' ?_ p1 p2)
  refine INV_m p1 (by decide) q ?_
  obtain ⟨-, q1, q2, q3, q4, q5, q6, q7⟩ := q
  exact ⟨p0, by rw [p1.2.1 12 (by decide), p1.2.1 11 (by decide)]; exact q2, by rw [p1.2.1 50 (by decide), p1.2.1 11 (by decide)]; exact q3, PL_fr q4 p1 (by decide) (by decide), PLI_fr q5 p1 (by decide) (by decide), by rw [p1.2.1 1 (by decide)]; exact q6, by rw [p1.2.1 52 (by decide)]; exact q7⟩
set_option maxHeartbeats 4000000 in
theorem L3_X12_read {l : Launch} {V : Vx} {a1 : Int32} {a2 : Int32} {σ0 : Sg} {Qk : Int64 → Sg → Prop} (q : INV V σ0) (h9ret : ∀ (r : Int64) (σ' : Sg), INV V σ' → (Fr [] [] σ0 σ') → (F_X12_read a1 a2 σ0 = (r, σ')) → Qk r σ') : K_X12_read l V a1 a2 σ0 Qk := by
  refine kF_X12_read q.2.1 (fun r σ' p0 p1 p2 => h9ret r σ' ?_ p1 p2)
  refine INV_m p1 (by decide) q ?_
  obtain ⟨-, q1, q2, q3, q4, q5, q6, q7⟩ := q
  exact ⟨p0, by rw [p1.2.1 12 (by decide), p1.2.1 11 (by decide)]; exact q2, by rw [p1.2.1 50 (by decide), p1.2.1 11 (by decide)]; exact q3, PL_fr q4 p1 (by decide) (by decide), PLI_fr q5 p1 (by decide) (by decide), by rw [p1.2.1 1 (by decide)]; exact q6, by rw [p1.2.1 52 (by decide)]; exact q7⟩
set_option maxHeartbeats 4000000 in
theorem L3_X12_shift {l : Launch} {V : Vx} {a1 : Int32} {a2 : Int32} {a3 : Int32} {a4 : Int32} {a5 : Int32} {σ0 : Sg} {Qk : Int32 → Sg → Prop} (q : INV V σ0) (h9ret : ∀ (r : Int32) (σ' : Sg), INV V σ' → (Fr [173, 174] [] σ0 σ') → (F_X12_shift a1 a2 a3 a4 a5 σ0 = (r, σ')) → Qk r σ') : K_X12_shift l V a1 a2 a3 a4 a5 σ0 Qk := by
  refine kF_X12_shift q.2.1 (fun r σ' p0 p1 p2 => h9ret r σ' ?_ p1 p2)
  refine INV_m p1 (by decide) q ?_
  obtain ⟨-, q1, q2, q3, q4, q5, q6, q7⟩ := q
  exact ⟨p0, by rw [p1.2.1 12 (by decide), p1.2.1 11 (by decide)]; exact q2, by rw [p1.2.1 50 (by decide), p1.2.1 11 (by decide)]; exact q3, PL_fr q4 p1 (by decide) (by decide), PLI_fr q5 p1 (by decide) (by decide), by rw [p1.2.1 1 (by decide)]; exact q6, by rw [p1.2.1 52 (by decide)]; exact q7⟩
