/-! methods in words of INV, with what they are as functions -/
set_option maxHeartbeats 4000000 in
theorem L4_X11_of {l : Launch} {V : Vx} {a1 : Int32} {a2 : Int32} {σ0 : Sg} {Qk : Int32 → Sg → Prop} (q : INV V σ0) (h9ret : ∀ (r : Int32) (σ' : Sg), INV V σ' → (FX (fun id => id = 16) (fun _ _ => False) σ0 σ') → (F_X11_of a1 a2 σ0 = (r, σ')) → Qk r σ') : K_X11_of l V a1 a2 σ0 Qk := by
  refine kF_X11_of q.1.1 q.1.2.1 q.1.2.2.2.1 (fun r σ' p0 p1 p2 p3 => h9ret r σ' ?_ p1 p3)
  exact INV_fx (FX_tr FX_rf p1 (by intro id h9; (try dsimp only at h9) <;> unfold Sf <;> first | exact h9.elim | omega) (by intro id k h9; (try dsimp only at h9) <;> unfold Sf Ff <;> first | exact h9.elim | omega)) p0 q
set_option maxHeartbeats 4000000 in
theorem L4_X11_set {l : Launch} {V : Vx} {a1 : Int32} {a2 : Int32} {a3 : Int32} {σ0 : Sg} {Qk : Int32 → Sg → Prop} (q : INV V σ0) (h9ret : ∀ (r : Int32) (σ' : Sg), INV V σ' → (FX (fun id => id = 4 ∨ id = 5 ∨ id = 6 ∨ id = 7) (fun _ _ => False) σ0 σ') → (F_X11_set a1 a2 a3 σ0 = (r, σ')) → Qk r σ') : K_X11_set l V a1 a2 a3 σ0 Qk := by
  refine kF_X11_set q.1.1 (fun r σ' p0 p1 p2 => h9ret r σ' ?_ p1 p2)
  exact INV_fx (FX_tr FX_rf p1 (by intro id h9; (try dsimp only at h9) <;> unfold Sf <;> first | exact h9.elim | omega) (by intro id k h9; (try dsimp only at h9) <;> unfold Sf Ff <;> first | exact h9.elim | omega)) p0 q
set_option maxHeartbeats 4000000 in
theorem L4_X11_told {l : Launch} {V : Vx} {a1 : Int32} {σ0 : Sg} {Qk : Int32 → Sg → Prop} (q : INV V σ0) (h9ret : ∀ (r : Int32) (σ' : Sg), INV V σ' → (FX (fun id => False) (fun _ _ => False) σ0 σ') → (F_X11_told a1 σ0 = (r, σ')) → Qk r σ') : K_X11_told l V a1 σ0 Qk := by
  refine kF_X11_told q.1.1 (fun r σ' p0 p1 p2 => h9ret r σ' ?_ p1 p2)
  exact INV_fx (FX_tr FX_rf p1 (by intro id h9; (try dsimp only at h9) <;> unfold Sf <;> first | exact h9.elim | omega) (by intro id k h9; (try dsimp only at h9) <;> unfold Sf Ff <;> first | exact h9.elim | omega)) p0 q
set_option maxHeartbeats 4000000 in
theorem L4_X11_minute {l : Launch} {V : Vx} {σ0 : Sg} {Qk : Int32 → Sg → Prop} (q : INV V σ0) (h9ret : ∀ (r : Int32) (σ' : Sg), INV V σ' → (FX (fun id => id = 15 ∨ id = 16 ∨ id = 4 ∨ id = 5 ∨ id = 6 ∨ id = 7) (fun id k => (id = 1 ∧ k = 9)) σ0 σ') → ((gi σ' 1 9).toInt ≤ 9999) → (F_X11_minute σ0 = (r, σ')) → Qk r σ') : K_X11_minute l V σ0 Qk := by
  refine kF_X11_minute q.1.1 q.1.2.1 q.1.2.2.2.2.2.1 (fun r σ' p0 p1 p2 p3 p4 => h9ret r σ' ?_ p1 p3 p4)
  obtain ⟨⟨q1, q2, q3, q4, q5, q6, q7, q8, q9, q10⟩, qm⟩ := q
  exact ⟨⟨p0, p2, NN_fx q3 p1 (by intro h9; (try dsimp only at h9) <;> first | exact h9 | omega) (by intro h9; (try dsimp only at h9) <;> first | exact h9 | omega) (by intro h9; (try dsimp only at h9) <;> first | exact h9 | omega) (by intro h9; (try dsimp only at h9) <;> first | exact h9 | omega) (by intro h9; (try dsimp only at h9) <;> first | exact h9 | omega) (fun k => (by intro h9; (try dsimp only at h9) <;> first | exact h9 | omega)) (fun k => (by intro h9; (try dsimp only at h9) <;> first | exact h9 | omega)), by rw [FX_i p1 (id := 1) (k := 3) (by intro h9; (try dsimp only at h9) <;> first | exact h9 | omega) (by intro h9; (try dsimp only at h9) <;> first | exact h9 | omega), FX_i p1 (id := 1) (k := 1) (by intro h9; (try dsimp only at h9) <;> first | exact h9 | omega) (by intro h9; (try dsimp only at h9) <;> first | exact h9 | omega)]; exact q4, by rw [FX_i p1 (id := 17) (k := 3) (by intro h9; (try dsimp only at h9) <;> first | exact h9 | omega) (by intro h9; (try dsimp only at h9) <;> first | exact h9 | omega), FX_i p1 (id := 17) (k := 1) (by intro h9; (try dsimp only at h9) <;> first | exact h9 | omega) (by intro h9; (try dsimp only at h9) <;> first | exact h9 | omega)]; exact q5, p3, by rw [FX_i p1 (id := 17) (k := 9) (by intro h9; (try dsimp only at h9) <;> first | exact h9 | omega) (by intro h9; (try dsimp only at h9) <;> first | exact h9 | omega)]; exact q7, by rw [FX_i p1 (id := 9) (k := 1) (by intro h9; (try dsimp only at h9) <;> first | exact h9 | omega) (by intro h9; (try dsimp only at h9) <;> first | exact h9 | omega)]; exact q8, by rw [FX_i p1 (id := 25) (k := 1) (by intro h9; (try dsimp only at h9) <;> first | exact h9 | omega) (by intro h9; (try dsimp only at h9) <;> first | exact h9 | omega)]; exact q9, FI_fx p1 (by intro h9; (try dsimp only at h9) <;> first | exact h9 | omega) (fun k => (by intro h9; (try dsimp only at h9) <;> first | exact h9 | omega)) q10⟩, IVM_ag (MA_fx p1 (by intro id h9; (try dsimp only at h9) <;> omega) (by intro id k h9; (try dsimp only at h9) <;> first | exact h9.elim | omega)) qm⟩
set_option maxHeartbeats 4000000 in
theorem L4_X11_whet {l : Launch} {V : Vx} {σ0 : Sg} {Qk : Int32 → Sg → Prop} (q : INV V σ0) (h9ret : ∀ (r : Int32) (σ' : Sg), INV V σ' → (FX (fun id => id = 5 ∨ id = 6 ∨ id = 7) (fun id k => (id = 1 ∧ k = 9)) σ0 σ') → ((gi σ' 1 9).toInt ≤ 9999) → (F_X11_whet σ0 = (r, σ')) → Qk r σ') : K_X11_whet l V σ0 Qk := by
  refine kF_X11_whet q.1.1 q.1.2.1 q.1.2.2.2.2.2.1 (fun r σ' p0 p1 p2 p3 p4 => h9ret r σ' ?_ p1 p3 p4)
  obtain ⟨⟨q1, q2, q3, q4, q5, q6, q7, q8, q9, q10⟩, qm⟩ := q
  exact ⟨⟨p0, p2, NN_fx q3 p1 (by intro h9; (try dsimp only at h9) <;> first | exact h9 | omega) (by intro h9; (try dsimp only at h9) <;> first | exact h9 | omega) (by intro h9; (try dsimp only at h9) <;> first | exact h9 | omega) (by intro h9; (try dsimp only at h9) <;> first | exact h9 | omega) (by intro h9; (try dsimp only at h9) <;> first | exact h9 | omega) (fun k => (by intro h9; (try dsimp only at h9) <;> first | exact h9 | omega)) (fun k => (by intro h9; (try dsimp only at h9) <;> first | exact h9 | omega)), by rw [FX_i p1 (id := 1) (k := 3) (by intro h9; (try dsimp only at h9) <;> first | exact h9 | omega) (by intro h9; (try dsimp only at h9) <;> first | exact h9 | omega), FX_i p1 (id := 1) (k := 1) (by intro h9; (try dsimp only at h9) <;> first | exact h9 | omega) (by intro h9; (try dsimp only at h9) <;> first | exact h9 | omega)]; exact q4, by rw [FX_i p1 (id := 17) (k := 3) (by intro h9; (try dsimp only at h9) <;> first | exact h9 | omega) (by intro h9; (try dsimp only at h9) <;> first | exact h9 | omega), FX_i p1 (id := 17) (k := 1) (by intro h9; (try dsimp only at h9) <;> first | exact h9 | omega) (by intro h9; (try dsimp only at h9) <;> first | exact h9 | omega)]; exact q5, p3, by rw [FX_i p1 (id := 17) (k := 9) (by intro h9; (try dsimp only at h9) <;> first | exact h9 | omega) (by intro h9; (try dsimp only at h9) <;> first | exact h9 | omega)]; exact q7, by rw [FX_i p1 (id := 9) (k := 1) (by intro h9; (try dsimp only at h9) <;> first | exact h9 | omega) (by intro h9; (try dsimp only at h9) <;> first | exact h9 | omega)]; exact q8, by rw [FX_i p1 (id := 25) (k := 1) (by intro h9; (try dsimp only at h9) <;> first | exact h9 | omega) (by intro h9; (try dsimp only at h9) <;> first | exact h9 | omega)]; exact q9, FI_fx p1 (by intro h9; (try dsimp only at h9) <;> first | exact h9 | omega) (fun k => (by intro h9; (try dsimp only at h9) <;> first | exact h9 | omega)) q10⟩, IVM_ag (MA_fx p1 (by intro id h9; (try dsimp only at h9) <;> omega) (by intro id k h9; (try dsimp only at h9) <;> first | exact h9.elim | omega)) qm⟩
set_option maxHeartbeats 4000000 in
theorem L4_X11_pause {l : Launch} {V : Vx} {a1 : Int32} {σ0 : Sg} {Qk : Int32 → Sg → Prop} (q : INV V σ0) (h9ret : ∀ (r : Int32) (σ' : Sg), INV V σ' → (FX (fun id => id = 6 ∨ id = 7) (fun id k => (id = 1 ∧ k = 9)) σ0 σ') → ((gi σ' 1 9).toInt ≤ 9999) → (F_X11_pause a1 σ0 = (r, σ')) → Qk r σ') : K_X11_pause l V a1 σ0 Qk := by
  refine kF_X11_pause q.1.1 q.1.2.1 q.1.2.2.2.2.2.1 (fun r σ' p0 p1 p2 p3 p4 => h9ret r σ' ?_ p1 p3 p4)
  obtain ⟨⟨q1, q2, q3, q4, q5, q6, q7, q8, q9, q10⟩, qm⟩ := q
  exact ⟨⟨p0, p2, NN_fx q3 p1 (by intro h9; (try dsimp only at h9) <;> first | exact h9 | omega) (by intro h9; (try dsimp only at h9) <;> first | exact h9 | omega) (by intro h9; (try dsimp only at h9) <;> first | exact h9 | omega) (by intro h9; (try dsimp only at h9) <;> first | exact h9 | omega) (by intro h9; (try dsimp only at h9) <;> first | exact h9 | omega) (fun k => (by intro h9; (try dsimp only at h9) <;> first | exact h9 | omega)) (fun k => (by intro h9; (try dsimp only at h9) <;> first | exact h9 | omega)), by rw [FX_i p1 (id := 1) (k := 3) (by intro h9; (try dsimp only at h9) <;> first | exact h9 | omega) (by intro h9; (try dsimp only at h9) <;> first | exact h9 | omega), FX_i p1 (id := 1) (k := 1) (by intro h9; (try dsimp only at h9) <;> first | exact h9 | omega) (by intro h9; (try dsimp only at h9) <;> first | exact h9 | omega)]; exact q4, by rw [FX_i p1 (id := 17) (k := 3) (by intro h9; (try dsimp only at h9) <;> first | exact h9 | omega) (by intro h9; (try dsimp only at h9) <;> first | exact h9 | omega), FX_i p1 (id := 17) (k := 1) (by intro h9; (try dsimp only at h9) <;> first | exact h9 | omega) (by intro h9; (try dsimp only at h9) <;> first | exact h9 | omega)]; exact q5, p3, by rw [FX_i p1 (id := 17) (k := 9) (by intro h9; (try dsimp only at h9) <;> first | exact h9 | omega) (by intro h9; (try dsimp only at h9) <;> first | exact h9 | omega)]; exact q7, by rw [FX_i p1 (id := 9) (k := 1) (by intro h9; (try dsimp only at h9) <;> first | exact h9 | omega) (by intro h9; (try dsimp only at h9) <;> first | exact h9 | omega)]; exact q8, by rw [FX_i p1 (id := 25) (k := 1) (by intro h9; (try dsimp only at h9) <;> first | exact h9 | omega) (by intro h9; (try dsimp only at h9) <;> first | exact h9 | omega)]; exact q9, FI_fx p1 (by intro h9; (try dsimp only at h9) <;> first | exact h9 | omega) (fun k => (by intro h9; (try dsimp only at h9) <;> first | exact h9 | omega)) q10⟩, IVM_ag (MA_fx p1 (by intro id h9; (try dsimp only at h9) <;> omega) (by intro id k h9; (try dsimp only at h9) <;> first | exact h9.elim | omega)) qm⟩
set_option maxHeartbeats 4000000 in
theorem L4_X11_on {l : Launch} {V : Vx} {a1 : Int32} {a2 : Int32} {σ0 : Sg} {Qk : Int32 → Sg → Prop} (q : INV V σ0) (h9ret : ∀ (r : Int32) (σ' : Sg), INV V σ' → (FX (fun id => id = 34 ∨ id = 35 ∨ id = 36 ∨ id = 37 ∨ id = 38 ∨ id = 39 ∨ id = 40 ∨ id = 47 ∨ id = 48) (fun id k => (id = 33 ∧ k = 1) ∨ (id = 33 ∧ k = 3) ∨ (id = 33 ∧ k = 9) ∨ (id = 33 ∧ k = 10) ∨ (id = 33 ∧ k = 11)) σ0 σ') → (F_X11_on a1 a2 σ0 = (r, σ')) → Qk r σ') : K_X11_on l V a1 a2 σ0 Qk := by
  refine kF_X11_on q.1.1 q.1.2.1 q.1.2.2.2.2.2.1 (fun r σ' p0 p1 p2 p3 => h9ret r σ' ?_ p1 p3)
  exact INV_fx (FX_tr FX_rf p1 (by intro id h9; (try dsimp only at h9) <;> unfold Sf <;> first | exact h9.elim | omega) (by intro id k h9; (try dsimp only at h9) <;> unfold Sf Ff <;> first | exact h9.elim | omega)) p0 q
set_option maxHeartbeats 4000000 in
theorem L4_X11_done {l : Launch} {V : Vx} {σ0 : Sg} {Qk : Int32 → Sg → Prop} (q : INV V σ0) (h9ret : ∀ (r : Int32) (σ' : Sg), INV V σ' → (FX (fun id => id = 34 ∨ id = 35 ∨ id = 36 ∨ id = 37 ∨ id = 38 ∨ id = 39 ∨ id = 40 ∨ id = 47 ∨ id = 48) (fun id k => (id = 33 ∧ k = 1) ∨ (id = 33 ∧ k = 3) ∨ (id = 33 ∧ k = 9) ∨ (id = 33 ∧ k = 10) ∨ (id = 33 ∧ k = 11)) σ0 σ') → (F_X11_done σ0 = (r, σ')) → Qk r σ') : K_X11_done l V σ0 Qk := by
  refine kF_X11_done q.1.1 q.1.2.1 q.1.2.2.2.2.2.1 (fun r σ' p0 p1 p2 p3 => h9ret r σ' ?_ p1 p3)
  exact INV_fx (FX_tr FX_rf p1 (by intro id h9; (try dsimp only at h9) <;> unfold Sf <;> first | exact h9.elim | omega) (by intro id k h9; (try dsimp only at h9) <;> unfold Sf Ff <;> first | exact h9.elim | omega)) p0 q
set_option maxHeartbeats 4000000 in
theorem L4_X11_whets {l : Launch} {V : Vx} {a1 : Int32} {a2 : Int32} {σ0 : Sg} {Qk : Int32 → Sg → Prop} (q : INV V σ0) (h9ret : ∀ (r : Int32) (σ' : Sg), INV V σ' → (FX (fun id => id = 34 ∨ id = 35 ∨ id = 36 ∨ id = 37 ∨ id = 38 ∨ id = 39 ∨ id = 40 ∨ id = 47 ∨ id = 48) (fun id k => (id = 33 ∧ k = 1) ∨ (id = 33 ∧ k = 3) ∨ (id = 33 ∧ k = 9) ∨ (id = 33 ∧ k = 10) ∨ (id = 33 ∧ k = 11)) σ0 σ') → (F_X11_whets a1 a2 σ0 = (r, σ')) → Qk r σ') : K_X11_whets l V a1 a2 σ0 Qk := by
  refine kF_X11_whets q.1.1 q.1.2.1 q.1.2.2.2.2.2.1 (fun r σ' p0 p1 p2 p3 => h9ret r σ' ?_ p1 p3)
  exact INV_fx (FX_tr FX_rf p1 (by intro id h9; (try dsimp only at h9) <;> unfold Sf <;> first | exact h9.elim | omega) (by intro id k h9; (try dsimp only at h9) <;> unfold Sf Ff <;> first | exact h9.elim | omega)) p0 q
set_option maxHeartbeats 4000000 in
theorem L4_X11_apart {l : Launch} {V : Vx} {a1 : Int32} {a2 : Int32} {σ0 : Sg} {Qk : Int32 → Sg → Prop} (q : INV V σ0) (h9ret : ∀ (r : Int32) (σ' : Sg), INV V σ' → (FX (fun id => id = 34 ∨ id = 35 ∨ id = 36 ∨ id = 37 ∨ id = 38 ∨ id = 39 ∨ id = 40 ∨ id = 47 ∨ id = 48) (fun id k => (id = 33 ∧ k = 1) ∨ (id = 33 ∧ k = 3) ∨ (id = 33 ∧ k = 9) ∨ (id = 33 ∧ k = 10) ∨ (id = 33 ∧ k = 11)) σ0 σ') → (F_X11_apart a1 a2 σ0 = (r, σ')) → Qk r σ') : K_X11_apart l V a1 a2 σ0 Qk := by
  refine kF_X11_apart q.1.1 q.1.2.1 q.1.2.2.2.2.2.1 (fun r σ' p0 p1 p2 p3 => h9ret r σ' ?_ p1 p3)
  exact INV_fx (FX_tr FX_rf p1 (by intro id h9; (try dsimp only at h9) <;> unfold Sf <;> first | exact h9.elim | omega) (by intro id k h9; (try dsimp only at h9) <;> unfold Sf Ff <;> first | exact h9.elim | omega)) p0 q
set_option maxHeartbeats 4000000 in
theorem L4_X11_stop {l : Launch} {V : Vx} {a1 : Int32} {a2 : Int32} {a3 : Int32} {a4 : Int32} {σ0 : Sg} {Qk : Int32 → Sg → Prop} (q : INV V σ0) (h9ret : ∀ (r : Int32) (σ' : Sg), INV V σ' → (FX (fun id => id = 34 ∨ id = 35 ∨ id = 36 ∨ id = 37 ∨ id = 38 ∨ id = 39 ∨ id = 40 ∨ id = 47 ∨ id = 48 ∨ id = 68) (fun id k => (id = 33 ∧ k = 1) ∨ (id = 33 ∧ k = 3) ∨ (id = 33 ∧ k = 9) ∨ (id = 33 ∧ k = 10) ∨ (id = 33 ∧ k = 11)) σ0 σ') → (F_X11_stop a1 a2 a3 a4 σ0 = (r, σ')) → Qk r σ') : K_X11_stop l V a1 a2 a3 a4 σ0 Qk := by
  refine kF_X11_stop q.1.1 q.1.2.1 q.1.2.2.2.2.2.1 (fun r σ' p0 p1 p2 p3 => h9ret r σ' ?_ p1 p3)
  exact INV_fx (FX_tr FX_rf p1 (by intro id h9; (try dsimp only at h9) <;> unfold Sf <;> first | exact h9.elim | omega) (by intro id k h9; (try dsimp only at h9) <;> unfold Sf Ff <;> first | exact h9.elim | omega)) p0 q
set_option maxHeartbeats 4000000 in
theorem L4_X11_alone {l : Launch} {V : Vx} {a1 : Int32} {σ0 : Sg} {Qk : Int32 → Sg → Prop} (q : INV V σ0) (h9ret : ∀ (r : Int32) (σ' : Sg), INV V σ' → (FX (fun id => id = 34 ∨ id = 35 ∨ id = 36 ∨ id = 37 ∨ id = 38 ∨ id = 39 ∨ id = 40 ∨ id = 47 ∨ id = 48) (fun id k => (id = 33 ∧ k = 1) ∨ (id = 33 ∧ k = 3) ∨ (id = 33 ∧ k = 9) ∨ (id = 33 ∧ k = 10) ∨ (id = 33 ∧ k = 11)) σ0 σ') → (F_X11_alone a1 σ0 = (r, σ')) → Qk r σ') : K_X11_alone l V a1 σ0 Qk := by
  refine kF_X11_alone q.1.1 q.1.2.1 q.1.2.2.2.2.2.1 (fun r σ' p0 p1 p2 p3 => h9ret r σ' ?_ p1 p3)
  exact INV_fx (FX_tr FX_rf p1 (by intro id h9; (try dsimp only at h9) <;> unfold Sf <;> first | exact h9.elim | omega) (by intro id k h9; (try dsimp only at h9) <;> unfold Sf Ff <;> first | exact h9.elim | omega)) p0 q
set_option maxHeartbeats 4000000 in
theorem L4_X11_rest {l : Launch} {V : Vx} {a1 : Int32} {a2 : Int32} {σ0 : Sg} {Qk : Int32 → Sg → Prop} (q : INV V σ0) (h9ret : ∀ (r : Int32) (σ' : Sg), INV V σ' → (FX (fun id => id = 34 ∨ id = 35 ∨ id = 36 ∨ id = 37 ∨ id = 38 ∨ id = 39 ∨ id = 40 ∨ id = 47 ∨ id = 48) (fun id k => (id = 33 ∧ k = 1) ∨ (id = 33 ∧ k = 3) ∨ (id = 33 ∧ k = 9) ∨ (id = 33 ∧ k = 10) ∨ (id = 33 ∧ k = 11)) σ0 σ') → (F_X11_rest a1 a2 σ0 = (r, σ')) → Qk r σ') : K_X11_rest l V a1 a2 σ0 Qk := by
  refine kF_X11_rest q.1.1 q.1.2.1 q.1.2.2.2.2.2.1 (fun r σ' p0 p1 p2 p3 => h9ret r σ' ?_ p1 p3)
  exact INV_fx (FX_tr FX_rf p1 (by intro id h9; (try dsimp only at h9) <;> unfold Sf <;> first | exact h9.elim | omega) (by intro id k h9; (try dsimp only at h9) <;> unfold Sf Ff <;> first | exact h9.elim | omega)) p0 q
set_option maxHeartbeats 4000000 in
theorem L4_X11_paused {l : Launch} {V : Vx} {a1 : Int32} {a2 : Int32} {σ0 : Sg} {Qk : Int32 → Sg → Prop} (q : INV V σ0) (h9ret : ∀ (r : Int32) (σ' : Sg), INV V σ' → (FX (fun id => id = 34 ∨ id = 35 ∨ id = 36 ∨ id = 37 ∨ id = 38 ∨ id = 39 ∨ id = 40 ∨ id = 47 ∨ id = 48) (fun id k => (id = 33 ∧ k = 1) ∨ (id = 33 ∧ k = 3) ∨ (id = 33 ∧ k = 9) ∨ (id = 33 ∧ k = 10) ∨ (id = 33 ∧ k = 11)) σ0 σ') → (F_X11_paused a1 a2 σ0 = (r, σ')) → Qk r σ') : K_X11_paused l V a1 a2 σ0 Qk := by
  refine kF_X11_paused q.1.1 q.1.2.1 q.1.2.2.2.2.2.1 (fun r σ' p0 p1 p2 p3 => h9ret r σ' ?_ p1 p3)
  exact INV_fx (FX_tr FX_rf p1 (by intro id h9; (try dsimp only at h9) <;> unfold Sf <;> first | exact h9.elim | omega) (by intro id k h9; (try dsimp only at h9) <;> unfold Sf Ff <;> first | exact h9.elim | omega)) p0 q
set_option maxHeartbeats 4000000 in
theorem L4_X11_who {l : Launch} {V : Vx} {σ0 : Sg} {Qk : Int32 → Sg → Prop} (q : INV V σ0) (h9ret : ∀ (r : Int32) (σ' : Sg), INV V σ' → (FX (fun id => id = 34 ∨ id = 35 ∨ id = 36 ∨ id = 37 ∨ id = 38 ∨ id = 39 ∨ id = 40 ∨ id = 47 ∨ id = 48) (fun id k => (id = 33 ∧ k = 1) ∨ (id = 33 ∧ k = 3) ∨ (id = 33 ∧ k = 9) ∨ (id = 33 ∧ k = 10) ∨ (id = 33 ∧ k = 11)) σ0 σ') → (F_X11_who σ0 = (r, σ')) → Qk r σ') : K_X11_who l V σ0 Qk := by
  refine kF_X11_who q.1.1 q.1.2.1 q.1.2.2.2.2.2.1 (fun r σ' p0 p1 p2 p3 => h9ret r σ' ?_ p1 p3)
  exact INV_fx (FX_tr FX_rf p1 (by intro id h9; (try dsimp only at h9) <;> unfold Sf <;> first | exact h9.elim | omega) (by intro id k h9; (try dsimp only at h9) <;> unfold Sf Ff <;> first | exact h9.elim | omega)) p0 q
set_option maxHeartbeats 4000000 in
theorem L4_X11_odds {l : Launch} {V : Vx} {a1 : Int32} {a2 : Int32} {a3 : Int32} {σ0 : Sg} {Qk : Int64 → Sg → Prop} (q : INV V σ0) (h9ret : ∀ (r : Int64) (σ' : Sg), INV V σ' → (FX (fun id => id = 34 ∨ id = 35 ∨ id = 36 ∨ id = 37 ∨ id = 38 ∨ id = 39 ∨ id = 40 ∨ id = 47 ∨ id = 48) (fun id k => (id = 33 ∧ k = 1) ∨ (id = 33 ∧ k = 3) ∨ (id = 33 ∧ k = 9) ∨ (id = 33 ∧ k = 10) ∨ (id = 33 ∧ k = 11)) σ0 σ') → (F_X11_odds a1 a2 a3 σ0 = (r, σ')) → Qk r σ') : K_X11_odds l V a1 a2 a3 σ0 Qk := by
  refine kF_X11_odds q.1.1 q.1.2.1 q.1.2.2.2.2.2.1 (fun r σ' p0 p1 p2 p3 => h9ret r σ' ?_ p1 p3)
  exact INV_fx (FX_tr FX_rf p1 (by intro id h9; (try dsimp only at h9) <;> unfold Sf <;> first | exact h9.elim | omega) (by intro id k h9; (try dsimp only at h9) <;> unfold Sf Ff <;> first | exact h9.elim | omega)) p0 q
set_option maxHeartbeats 4000000 in
theorem L4_X11_mean {l : Launch} {V : Vx} {a1 : Int32} {a2 : Int32} {σ0 : Sg} {Qk : Int64 → Sg → Prop} (q : INV V σ0) (h9ret : ∀ (r : Int64) (σ' : Sg), INV V σ' → (FX (fun id => id = 34 ∨ id = 35 ∨ id = 36 ∨ id = 37 ∨ id = 38 ∨ id = 39 ∨ id = 40 ∨ id = 47 ∨ id = 48) (fun id k => (id = 33 ∧ k = 1) ∨ (id = 33 ∧ k = 3) ∨ (id = 33 ∧ k = 9) ∨ (id = 33 ∧ k = 10) ∨ (id = 33 ∧ k = 11)) σ0 σ') → (F_X11_mean a1 a2 σ0 = (r, σ')) → Qk r σ') : K_X11_mean l V a1 a2 σ0 Qk := by
  refine kF_X11_mean q.1.1 q.1.2.1 q.1.2.2.2.2.2.1 (fun r σ' p0 p1 p2 p3 => h9ret r σ' ?_ p1 p3)
  exact INV_fx (FX_tr FX_rf p1 (by intro id h9; (try dsimp only at h9) <;> unfold Sf <;> first | exact h9.elim | omega) (by intro id k h9; (try dsimp only at h9) <;> unfold Sf Ff <;> first | exact h9.elim | omega)) p0 q
set_option maxHeartbeats 4000000 in
theorem L4_X11_planned {l : Launch} {V : Vx} {σ0 : Sg} {Qk : Int32 → Sg → Prop} (q : INV V σ0) (h9ret : ∀ (r : Int32) (σ' : Sg), INV V σ' → (FX (fun id => id = 34 ∨ id = 35 ∨ id = 36 ∨ id = 37 ∨ id = 38 ∨ id = 39 ∨ id = 40 ∨ id = 47 ∨ id = 48) (fun id k => (id = 33 ∧ k = 1) ∨ (id = 33 ∧ k = 3) ∨ (id = 33 ∧ k = 9) ∨ (id = 33 ∧ k = 10) ∨ (id = 33 ∧ k = 11)) σ0 σ') → (F_X11_planned σ0 = (r, σ')) → Qk r σ') : K_X11_planned l V σ0 Qk := by
  refine kF_X11_planned q.1.1 q.1.2.1 q.1.2.2.2.2.2.1 (fun r σ' p0 p1 p2 p3 => h9ret r σ' ?_ p1 p3)
  exact INV_fx (FX_tr FX_rf p1 (by intro id h9; (try dsimp only at h9) <;> unfold Sf <;> first | exact h9.elim | omega) (by intro id k h9; (try dsimp only at h9) <;> unfold Sf Ff <;> first | exact h9.elim | omega)) p0 q
set_option maxHeartbeats 4000000 in
theorem L4_X11_judge {l : Launch} {V : Vx} {a1 : Int32} {a2 : Int32} {σ0 : Sg} {Qk : Int32 → Sg → Prop} (q : INV V σ0) (h9ret : ∀ (r : Int32) (σ' : Sg), INV V σ' → (FX (fun id => False) (fun _ _ => False) σ0 σ') → (F_X11_judge a1 a2 σ0 = (r, σ')) → Qk r σ') : K_X11_judge l V a1 a2 σ0 Qk := by
  refine kF_X11_judge q.1.1 (fun r σ' p0 p1 p2 => h9ret r σ' ?_ p1 p2)
  exact INV_fx (FX_tr FX_rf p1 (by intro id h9; (try dsimp only at h9) <;> unfold Sf <;> first | exact h9.elim | omega) (by intro id k h9; (try dsimp only at h9) <;> unfold Sf Ff <;> first | exact h9.elim | omega)) p0 q
set_option maxHeartbeats 4000000 in
theorem L4_X12_of {l : Launch} {V : Vx} {a1 : Int32} {a2 : Int32} {σ0 : Sg} {Qk : Int32 → Sg → Prop} (q : INV V σ0) (h9ret : ∀ (r : Int32) (σ' : Sg), INV V σ' → (Fr [74, 129] [30] σ0 σ') → (F_X12_of a1 a2 σ0 = (r, σ')) → Qk r σ') : K_X12_of l V a1 a2 σ0 Qk := by
  refine kF_X12_of q.2.1 q.2.2.2.2.1 (fun r σ' p0 p1 p2 => h9ret r σ' ?_ p1 p2)
  refine INV_m p1 (by decide) q ?_
  obtain ⟨-, q1, q2, q3, q4, q5, q6, q7⟩ := q
  exact ⟨p0, by rw [p1.2.1 12 (by decide), p1.2.1 11 (by decide)]; exact q2, by rw [p1.2.1 50 (by decide), p1.2.1 11 (by decide)]; exact q3, PL_fr q4 p1 (by decide) (by decide), PLI_fr q5 p1 (by decide) (by decide), by rw [p1.2.1 1 (by decide)]; exact q6, by rw [p1.2.1 52 (by decide)]; exact q7⟩
set_option maxHeartbeats 4000000 in
theorem L4_X12_set {l : Launch} {V : Vx} {a1 : Int32} {a2 : Int32} {a3 : Int32} {σ0 : Sg} {Qk : Int32 → Sg → Prop} (q : INV V σ0) (h9ret : ∀ (r : Int32) (σ' : Sg), INV V σ' → (Fr [105, 106, 107, 108] [] σ0 σ') → (F_X12_set a1 a2 a3 σ0 = (r, σ')) → Qk r σ') : K_X12_set l V a1 a2 a3 σ0 Qk := by
  refine kF_X12_set q.2.1 (fun r σ' p0 p1 p2 => h9ret r σ' ?_ p1 p2)
  refine INV_m p1 (by decide) q ?_
  obtain ⟨-, q1, q2, q3, q4, q5, q6, q7⟩ := q
  exact ⟨p0, by rw [p1.2.1 12 (by decide), p1.2.1 11 (by decide)]; exact q2, by rw [p1.2.1 50 (by decide), p1.2.1 11 (by decide)]; exact q3, PL_fr q4 p1 (by decide) (by decide), PLI_fr q5 p1 (by decide) (by decide), by rw [p1.2.1 1 (by decide)]; exact q6, by rw [p1.2.1 52 (by decide)]; exact q7⟩
set_option maxHeartbeats 4000000 in
theorem L4_X12_told {l : Launch} {V : Vx} {a1 : Int32} {σ0 : Sg} {Qk : Int32 → Sg → Prop} (q : INV V σ0) (h9ret : ∀ (r : Int32) (σ' : Sg), INV V σ' → (Fr [] [] σ0 σ') → (F_X12_told a1 σ0 = (r, σ')) → Qk r σ') : K_X12_told l V a1 σ0 Qk := by
  refine kF_X12_told q.2.1 (fun r σ' p0 p1 p2 => h9ret r σ' ?_ p1 p2)
  refine INV_m p1 (by decide) q ?_
  obtain ⟨-, q1, q2, q3, q4, q5, q6, q7⟩ := q
  exact ⟨p0, by rw [p1.2.1 12 (by decide), p1.2.1 11 (by decide)]; exact q2, by rw [p1.2.1 50 (by decide), p1.2.1 11 (by decide)]; exact q3, PL_fr q4 p1 (by decide) (by decide), PLI_fr q5 p1 (by decide) (by decide), by rw [p1.2.1 1 (by decide)]; exact q6, by rw [p1.2.1 52 (by decide)]; exact q7⟩
set_option maxHeartbeats 4000000 in
theorem L4_X12_minute {l : Launch} {V : Vx} {σ0 : Sg} {Qk : Int32 → Sg → Prop} (q : INV V σ0) (h9ret : ∀ (r : Int32) (σ' : Sg), INV V σ' → (Fr [74, 105, 106, 107, 108, 129, 131, 132] [1, 30] σ0 σ') → ((gi σ' 74 1).toInt ≤ 9999) → (F_X12_minute σ0 = (r, σ')) → Qk r σ') : K_X12_minute l V σ0 Qk := by
  refine kF_X12_minute q.2.1 q.2.2.2.2.2.2.1 (fun r σ' p0 p1 p2 p3 => h9ret r σ' ?_ p1 p2 p3)
  refine INV_m p1 (by decide) q ?_
  obtain ⟨-, q1, q2, q3, q4, q5, q6, q7⟩ := q
  exact ⟨p0, by rw [p1.2.1 12 (by decide), p1.2.1 11 (by decide)]; exact q2, by rw [p1.2.1 50 (by decide), p1.2.1 11 (by decide)]; exact q3, PL_fr q4 p1 (by decide) (by decide), PLI_fr q5 p1 (by decide) (by decide), p2, by rw [p1.2.1 52 (by decide)]; exact q7⟩
set_option maxHeartbeats 4000000 in
theorem L4_X12_whet {l : Launch} {V : Vx} {σ0 : Sg} {Qk : Int32 → Sg → Prop} (q : INV V σ0) (h9ret : ∀ (r : Int32) (σ' : Sg), INV V σ' → (Fr [74, 106, 107, 108] [1] σ0 σ') → ((gi σ' 74 1).toInt ≤ 9999) → (F_X12_whet σ0 = (r, σ')) → Qk r σ') : K_X12_whet l V σ0 Qk := by
  refine kF_X12_whet q.2.1 q.2.2.2.2.2.2.1 (fun r σ' p0 p1 p2 p3 => h9ret r σ' ?_ p1 p2 p3)
  refine INV_m p1 (by decide) q ?_
  obtain ⟨-, q1, q2, q3, q4, q5, q6, q7⟩ := q
  exact ⟨p0, by rw [p1.2.1 12 (by decide), p1.2.1 11 (by decide)]; exact q2, by rw [p1.2.1 50 (by decide), p1.2.1 11 (by decide)]; exact q3, PL_fr q4 p1 (by decide) (by decide), PLI_fr q5 p1 (by decide) (by decide), p2, by rw [p1.2.1 52 (by decide)]; exact q7⟩
set_option maxHeartbeats 4000000 in
theorem L4_X12_pause {l : Launch} {V : Vx} {a1 : Int32} {σ0 : Sg} {Qk : Int32 → Sg → Prop} (q : INV V σ0) (h9ret : ∀ (r : Int32) (σ' : Sg), INV V σ' → (Fr [74, 107, 108] [1] σ0 σ') → ((gi σ' 74 1).toInt ≤ 9999) → (F_X12_pause a1 σ0 = (r, σ')) → Qk r σ') : K_X12_pause l V a1 σ0 Qk := by
  refine kF_X12_pause q.2.1 q.2.2.2.2.2.2.1 (fun r σ' p0 p1 p2 p3 => h9ret r σ' ?_ p1 p2 p3)
  refine INV_m p1 (by decide) q ?_
  obtain ⟨-, q1, q2, q3, q4, q5, q6, q7⟩ := q
  exact ⟨p0, by rw [p1.2.1 12 (by decide), p1.2.1 11 (by decide)]; exact q2, by rw [p1.2.1 50 (by decide), p1.2.1 11 (by decide)]; exact q3, PL_fr q4 p1 (by decide) (by decide), PLI_fr q5 p1 (by decide) (by decide), p2, by rw [p1.2.1 52 (by decide)]; exact q7⟩
set_option maxHeartbeats 4000000 in
theorem L4_X12_on {l : Launch} {V : Vx} {a1 : Int32} {a2 : Int32} {σ0 : Sg} {Qk : Int32 → Sg → Prop} (q : INV V σ0) (h9ret : ∀ (r : Int32) (σ' : Sg), INV V σ' → (Fr [74, 105, 106, 107, 108, 129, 131, 132, 134, 135, 136, 137] [1, 30, 33] σ0 σ') → ((gi σ' 74 1).toInt = (gi σ0 74 1).toInt) → (F_X12_on a1 a2 σ0 = (r, σ')) → Qk r σ') : K_X12_on l V a1 a2 σ0 Qk := by
  refine kF_X12_on q.2.1 q.2.2.2.2.2.2.1 (fun r σ' p0 p1 p2 p3 => h9ret r σ' ?_ p1 p2 p3)
  refine INV_m p1 (by decide) q ?_
  obtain ⟨-, q1, q2, q3, q4, q5, q6, q7⟩ := q
  exact ⟨p0, by rw [p1.2.1 12 (by decide), p1.2.1 11 (by decide)]; exact q2, by rw [p1.2.1 50 (by decide), p1.2.1 11 (by decide)]; exact q3, PL_fr q4 p1 (by decide) (by decide), PLI_fr q5 p1 (by decide) (by decide), by rw [p2]; exact q6, by rw [p1.2.1 52 (by decide)]; exact q7⟩
set_option maxHeartbeats 4000000 in
theorem L4_X12_done {l : Launch} {V : Vx} {σ0 : Sg} {Qk : Int32 → Sg → Prop} (q : INV V σ0) (h9ret : ∀ (r : Int32) (σ' : Sg), INV V σ' → (Fr [74, 105, 106, 107, 108, 129, 131, 132, 134, 135, 136, 137] [1, 30, 33] σ0 σ') → ((gi σ' 74 1).toInt = (gi σ0 74 1).toInt) → (F_X12_done σ0 = (r, σ')) → Qk r σ') : K_X12_done l V σ0 Qk := by
  refine kF_X12_done q.2.1 q.2.2.2.2.2.2.1 (fun r σ' p0 p1 p2 p3 => h9ret r σ' ?_ p1 p2 p3)
  refine INV_m p1 (by decide) q ?_
  obtain ⟨-, q1, q2, q3, q4, q5, q6, q7⟩ := q
  exact ⟨p0, by rw [p1.2.1 12 (by decide), p1.2.1 11 (by decide)]; exact q2, by rw [p1.2.1 50 (by decide), p1.2.1 11 (by decide)]; exact q3, PL_fr q4 p1 (by decide) (by decide), PLI_fr q5 p1 (by decide) (by decide), by rw [p2]; exact q6, by rw [p1.2.1 52 (by decide)]; exact q7⟩
set_option maxHeartbeats 4000000 in
theorem L4_X12_whets {l : Launch} {V : Vx} {a1 : Int32} {a2 : Int32} {σ0 : Sg} {Qk : Int32 → Sg → Prop} (q : INV V σ0) (h9ret : ∀ (r : Int32) (σ' : Sg), INV V σ' → (Fr [74, 105, 106, 107, 108, 129, 131, 132, 134, 135, 136, 137] [1, 30, 33] σ0 σ') → ((gi σ' 74 1).toInt = (gi σ0 74 1).toInt) → (F_X12_whets a1 a2 σ0 = (r, σ')) → Qk r σ') : K_X12_whets l V a1 a2 σ0 Qk := by
  refine kF_X12_whets q.2.1 q.2.2.2.2.2.2.1 (fun r σ' p0 p1 p2 p3 => h9ret r σ' ?_ p1 p2 p3)
  refine INV_m p1 (by decide) q ?_
  obtain ⟨-, q1, q2, q3, q4, q5, q6, q7⟩ := q
  exact ⟨p0, by rw [p1.2.1 12 (by decide), p1.2.1 11 (by decide)]; exact q2, by rw [p1.2.1 50 (by decide), p1.2.1 11 (by decide)]; exact q3, PL_fr q4 p1 (by decide) (by decide), PLI_fr q5 p1 (by decide) (by decide), by rw [p2]; exact q6, by rw [p1.2.1 52 (by decide)]; exact q7⟩
set_option maxHeartbeats 4000000 in
theorem L4_X12_apart {l : Launch} {V : Vx} {a1 : Int32} {a2 : Int32} {σ0 : Sg} {Qk : Int32 → Sg → Prop} (q : INV V σ0) (h9ret : ∀ (r : Int32) (σ' : Sg), INV V σ' → (Fr [74, 105, 106, 107, 108, 129, 131, 132, 134, 135, 136, 137] [1, 28, 30, 33] σ0 σ') → ((gi σ' 74 1).toInt = (gi σ0 74 1).toInt) → (F_X12_apart a1 a2 σ0 = (r, σ')) → Qk r σ') : K_X12_apart l V a1 a2 σ0 Qk := by
  refine kF_X12_apart q.2.1 q.2.2.2.2.2.2.1 (fun r σ' p0 p1 p2 p3 => h9ret r σ' ?_ p1 p2 p3)
  refine INV_m p1 (by decide) q ?_
  obtain ⟨-, q1, q2, q3, q4, q5, q6, q7⟩ := q
  exact ⟨p0, by rw [p1.2.1 12 (by decide), p1.2.1 11 (by decide)]; exact q2, by rw [p1.2.1 50 (by decide), p1.2.1 11 (by decide)]; exact q3, PL_fr q4 p1 (by decide) (by decide), PLI_fr q5 p1 (by decide) (by decide), by rw [p2]; exact q6, by rw [p1.2.1 52 (by decide)]; exact q7⟩
set_option maxHeartbeats 4000000 in
theorem L4_X12_stop {l : Launch} {V : Vx} {a1 : Int32} {a2 : Int32} {a3 : Int32} {a4 : Int32} {σ0 : Sg} {Qk : Int32 → Sg → Prop} (q : INV V σ0) (h9ret : ∀ (r : Int32) (σ' : Sg), INV V σ' → (Fr [74, 105, 106, 107, 108, 129, 131, 132, 134, 135, 136, 137, 140] [1, 30, 33] σ0 σ') → ((gi σ' 74 1).toInt = (gi σ0 74 1).toInt) → (F_X12_stop a1 a2 a3 a4 σ0 = (r, σ')) → Qk r σ') : K_X12_stop l V a1 a2 a3 a4 σ0 Qk := by
  refine kF_X12_stop q.2.1 q.2.2.2.2.2.2.1 (fun r σ' p0 p1 p2 p3 => h9ret r σ' ?_ p1 p2 p3)
  refine INV_m p1 (by decide) q ?_
  obtain ⟨-, q1, q2, q3, q4, q5, q6, q7⟩ := q
  exact ⟨p0, by rw [p1.2.1 12 (by decide), p1.2.1 11 (by decide)]; exact q2, by rw [p1.2.1 50 (by decide), p1.2.1 11 (by decide)]; exact q3, PL_fr q4 p1 (by decide) (by decide), PLI_fr q5 p1 (by decide) (by decide), by rw [p2]; exact q6, by rw [p1.2.1 52 (by decide)]; exact q7⟩
set_option maxHeartbeats 4000000 in
theorem L4_X12_alone {l : Launch} {V : Vx} {a1 : Int32} {σ0 : Sg} {Qk : Int32 → Sg → Prop} (q : INV V σ0) (h9ret : ∀ (r : Int32) (σ' : Sg), INV V σ' → (Fr [74, 105, 106, 107, 108, 110, 129, 131, 132, 134, 135, 136, 137, 138] [1, 2, 30, 33] σ0 σ') → ((gi σ' 74 1).toInt = (gi σ0 74 1).toInt) → (CD σ0 σ' 110 110 6) → (F_X12_alone a1 σ0 = (r, σ')) → Qk r σ') : K_X12_alone l V a1 σ0 Qk := by
  refine kF_X12_alone q.2.1 q.2.2.2.2.2.2.1 (fun r σ' p0 p1 p2 p3 p4 => h9ret r σ' ?_ p1 p2 p3 p4)
  refine INV_m p1 (by decide) q ?_
  obtain ⟨-, q1, q2, q3, q4, q5, q6, q7⟩ := q
  exact ⟨p0, by rw [p1.2.1 12 (by decide), p1.2.1 11 (by decide)]; exact q2, by rw [p1.2.1 50 (by decide), p1.2.1 11 (by decide)]; exact q3, PL_cd q1 q4 p3 (by rw [p1.2.1 0 (by decide)]), PLI_fr q5 p1 (by decide) (by decide), by rw [p2]; exact q6, by rw [p1.2.1 52 (by decide)]; exact q7⟩
set_option maxHeartbeats 4000000 in
theorem L4_X12_rest {l : Launch} {V : Vx} {a1 : Int32} {a2 : Int32} {σ0 : Sg} {Qk : Int32 → Sg → Prop} (q : INV V σ0) (h9ret : ∀ (r : Int32) (σ' : Sg), INV V σ' → (Fr [74, 105, 106, 107, 108, 129, 131, 132, 134, 135, 136, 137] [1, 30, 33] σ0 σ') → ((gi σ' 74 1).toInt = (gi σ0 74 1).toInt) → (F_X12_rest a1 a2 σ0 = (r, σ')) → Qk r σ') : K_X12_rest l V a1 a2 σ0 Qk := by
  refine kF_X12_rest q.2.1 q.2.2.2.2.2.2.1 (fun r σ' p0 p1 p2 p3 => h9ret r σ' ?_ p1 p2 p3)
  refine INV_m p1 (by decide) q ?_
  obtain ⟨-, q1, q2, q3, q4, q5, q6, q7⟩ := q
  exact ⟨p0, by rw [p1.2.1 12 (by decide), p1.2.1 11 (by decide)]; exact q2, by rw [p1.2.1 50 (by decide), p1.2.1 11 (by decide)]; exact q3, PL_fr q4 p1 (by decide) (by decide), PLI_fr q5 p1 (by decide) (by decide), by rw [p2]; exact q6, by rw [p1.2.1 52 (by decide)]; exact q7⟩
set_option maxHeartbeats 4000000 in
theorem L4_X12_paused {l : Launch} {V : Vx} {a1 : Int32} {a2 : Int32} {σ0 : Sg} {Qk : Int32 → Sg → Prop} (q : INV V σ0) (h9ret : ∀ (r : Int32) (σ' : Sg), INV V σ' → (Fr [74, 105, 106, 107, 108, 129, 131, 132, 134, 135, 136, 137] [1, 30, 33] σ0 σ') → ((gi σ' 74 1).toInt = (gi σ0 74 1).toInt) → (F_X12_paused a1 a2 σ0 = (r, σ')) → Qk r σ') : K_X12_paused l V a1 a2 σ0 Qk := by
  refine kF_X12_paused q.2.1 q.2.2.2.2.2.2.1 (fun r σ' p0 p1 p2 p3 => h9ret r σ' ?_ p1 p2 p3)
  refine INV_m p1 (by decide) q ?_
  obtain ⟨-, q1, q2, q3, q4, q5, q6, q7⟩ := q
  exact ⟨p0, by rw [p1.2.1 12 (by decide), p1.2.1 11 (by decide)]; exact q2, by rw [p1.2.1 50 (by decide), p1.2.1 11 (by decide)]; exact q3, PL_fr q4 p1 (by decide) (by decide), PLI_fr q5 p1 (by decide) (by decide), by rw [p2]; exact q6, by rw [p1.2.1 52 (by decide)]; exact q7⟩
set_option maxHeartbeats 4000000 in
theorem L4_X12_who {l : Launch} {V : Vx} {σ0 : Sg} {Qk : Int32 → Sg → Prop} (q : INV V σ0) (h9ret : ∀ (r : Int32) (σ' : Sg), INV V σ' → (Fr [74, 105, 106, 107, 108, 129, 131, 132, 134, 135, 136, 137] [1, 30, 33] σ0 σ') → ((gi σ' 74 1).toInt = (gi σ0 74 1).toInt) → (F_X12_who σ0 = (r, σ')) → Qk r σ') : K_X12_who l V σ0 Qk := by
  refine kF_X12_who q.2.1 q.2.2.2.2.2.2.1 (fun r σ' p0 p1 p2 p3 => h9ret r σ' ?_ p1 p2 p3)
  refine INV_m p1 (by decide) q ?_
  obtain ⟨-, q1, q2, q3, q4, q5, q6, q7⟩ := q
  exact ⟨p0, by rw [p1.2.1 12 (by decide), p1.2.1 11 (by decide)]; exact q2, by rw [p1.2.1 50 (by decide), p1.2.1 11 (by decide)]; exact q3, PL_fr q4 p1 (by decide) (by decide), PLI_fr q5 p1 (by decide) (by decide), by rw [p2]; exact q6, by rw [p1.2.1 52 (by decide)]; exact q7⟩
set_option maxHeartbeats 4000000 in
theorem L4_X12_odds {l : Launch} {V : Vx} {a1 : Int32} {a2 : Int32} {a3 : Int32} {σ0 : Sg} {Qk : Int64 → Sg → Prop} (q : INV V σ0) (h9ret : ∀ (r : Int64) (σ' : Sg), INV V σ' → (Fr [74, 105, 106, 107, 108, 129, 131, 132, 134, 135, 136, 137] [1, 30, 33] σ0 σ') → ((gi σ' 74 1).toInt = (gi σ0 74 1).toInt) → (F_X12_odds a1 a2 a3 σ0 = (r, σ')) → Qk r σ') : K_X12_odds l V a1 a2 a3 σ0 Qk := by
  refine kF_X12_odds q.2.1 q.2.2.2.2.2.2.1 (fun r σ' p0 p1 p2 p3 => h9ret r σ' ?_ p1 p2 p3)
  refine INV_m p1 (by decide) q ?_
  obtain ⟨-, q1, q2, q3, q4, q5, q6, q7⟩ := q
  exact ⟨p0, by rw [p1.2.1 12 (by decide), p1.2.1 11 (by decide)]; exact q2, by rw [p1.2.1 50 (by decide), p1.2.1 11 (by decide)]; exact q3, PL_fr q4 p1 (by decide) (by decide), PLI_fr q5 p1 (by decide) (by decide), by rw [p2]; exact q6, by rw [p1.2.1 52 (by decide)]; exact q7⟩
set_option maxHeartbeats 4000000 in
theorem L4_X12_mean {l : Launch} {V : Vx} {a1 : Int32} {a2 : Int32} {σ0 : Sg} {Qk : Int64 → Sg → Prop} (q : INV V σ0) (h9ret : ∀ (r : Int64) (σ' : Sg), INV V σ' → (Fr [74, 105, 106, 107, 108, 129, 131, 132, 134, 135, 136, 137] [1, 30, 33] σ0 σ') → ((gi σ' 74 1).toInt = (gi σ0 74 1).toInt) → (F_X12_mean a1 a2 σ0 = (r, σ')) → Qk r σ') : K_X12_mean l V a1 a2 σ0 Qk := by
  refine kF_X12_mean q.2.1 q.2.2.2.2.2.2.1 (fun r σ' p0 p1 p2 p3 => h9ret r σ' ?_ p1 p2 p3)
  refine INV_m p1 (by decide) q ?_
  obtain ⟨-, q1, q2, q3, q4, q5, q6, q7⟩ := q
  exact ⟨p0, by rw [p1.2.1 12 (by decide), p1.2.1 11 (by decide)]; exact q2, by rw [p1.2.1 50 (by decide), p1.2.1 11 (by decide)]; exact q3, PL_fr q4 p1 (by decide) (by decide), PLI_fr q5 p1 (by decide) (by decide), by rw [p2]; exact q6, by rw [p1.2.1 52 (by decide)]; exact q7⟩
set_option maxHeartbeats 4000000 in
theorem L4_X12_planned {l : Launch} {V : Vx} {σ0 : Sg} {Qk : Int32 → Sg → Prop} (q : INV V σ0) (h9ret : ∀ (r : Int32) (σ' : Sg), INV V σ' → (Fr [74, 105, 106, 107, 108, 129, 131, 132, 134, 135, 136, 137] [1, 30, 33] σ0 σ') → ((gi σ' 74 1).toInt = (gi σ0 74 1).toInt) → (F_X12_planned σ0 = (r, σ')) → Qk r σ') : K_X12_planned l V σ0 Qk := by
  refine kF_X12_planned q.2.1 q.2.2.2.2.2.2.1 (fun r σ' p0 p1 p2 p3 => h9ret r σ' ?_ p1 p2 p3)
  refine INV_m p1 (by decide) q ?_
  obtain ⟨-, q1, q2, q3, q4, q5, q6, q7⟩ := q
  exact ⟨p0, by rw [p1.2.1 12 (by decide), p1.2.1 11 (by decide)]; exact q2, by rw [p1.2.1 50 (by decide), p1.2.1 11 (by decide)]; exact q3, PL_fr q4 p1 (by decide) (by decide), PLI_fr q5 p1 (by decide) (by decide), by rw [p2]; exact q6, by rw [p1.2.1 52 (by decide)]; exact q7⟩
set_option maxHeartbeats 4000000 in
theorem L4_X12_looked {l : Launch} {V : Vx} {σ0 : Sg} {Qk : Int32 → Sg → Prop} (q : INV V σ0) (h9ret : ∀ (r : Int32) (σ' : Sg), INV V σ' → (Fr [74, 105, 106, 107, 108, 129, 131, 132, 134, 135, 136, 137] [1, 30, 33] σ0 σ') → ((gi σ' 74 1).toInt = (gi σ0 74 1).toInt) → (F_X12_looked σ0 = (r, σ')) → Qk r σ') : K_X12_looked l V σ0 Qk := by
  refine kF_X12_looked q.2.1 q.2.2.2.2.2.2.1 (fun r σ' p0 p1 p2 p3 => h9ret r σ' ?_ p1 p2 p3)
  refine INV_m p1 (by decide) q ?_
  obtain ⟨-, q1, q2, q3, q4, q5, q6, q7⟩ := q
  exact ⟨p0, by rw [p1.2.1 12 (by decide), p1.2.1 11 (by decide)]; exact q2, by rw [p1.2.1 50 (by decide), p1.2.1 11 (by decide)]; exact q3, PL_fr q4 p1 (by decide) (by decide), PLI_fr q5 p1 (by decide) (by decide), by rw [p2]; exact q6, by rw [p1.2.1 52 (by decide)]; exact q7⟩
set_option maxHeartbeats 4000000 in
theorem L4_X12_judge {l : Launch} {V : Vx} {a1 : Int32} {a2 : Int32} {σ0 : Sg} {Qk : Int32 → Sg → Prop} (q : INV V σ0) (h9ret : ∀ (r : Int32) (σ' : Sg), INV V σ' → (Fr [] [] σ0 σ') → (F_X12_judge a1 a2 σ0 = (r, σ')) → Qk r σ') : K_X12_judge l V a1 a2 σ0 Qk := by
  refine kF_X12_judge q.2.1 (fun r σ' p0 p1 p2 => h9ret r σ' ?_ p1 p2)
  refine INV_m p1 (by decide) q ?_
  obtain ⟨-, q1, q2, q3, q4, q5, q6, q7⟩ := q
  exact ⟨p0, by rw [p1.2.1 12 (by decide), p1.2.1 11 (by decide)]; exact q2, by rw [p1.2.1 50 (by decide), p1.2.1 11 (by decide)]; exact q3, PL_fr q4 p1 (by decide) (by decide), PLI_fr q5 p1 (by decide) (by decide), by rw [p1.2.1 1 (by decide)]; exact q6, by rw [p1.2.1 52 (by decide)]; exact q7⟩
set_option maxHeartbeats 4000000 in
theorem L4_X12_order {l : Launch} {V : Vx} {a1 : Int32} {a2 : Int32} {σ0 : Sg} {Qk : Int32 → Sg → Prop} (hB : MBx σ0) (q : INV V σ0) (h9ret : ∀ (r : Int32) (σ' : Sg), INV V σ' → (Fr [74, 105, 106, 107, 108, 110, 129, 131, 132, 134, 135, 136, 137, 138, 139] [1, 30, 33] σ0 σ') → ((gi σ' 74 1).toInt = (gi σ0 74 1).toInt) → (CD σ0 σ' 110 110 6) → (RWS σ0 σ') → Qk r σ') : K_X12_order l V a1 a2 σ0 Qk := by
  refine kr_X12_order q.2.1 q.2.2.2.2.2.2.1 hB (fun r σ' p0 p1 p2 p3 p4 => h9ret r σ' ?_ p1 p2 p3 p4)
  refine INV_m p1 (by decide) q ?_
  obtain ⟨-, q1, q2, q3, q4, q5, q6, q7⟩ := q
  exact ⟨p0, by rw [p1.2.1 12 (by decide), p1.2.1 11 (by decide)]; exact q2, by rw [p1.2.1 50 (by decide), p1.2.1 11 (by decide)]; exact q3, PL_cd q1 q4 p3 (by rw [p1.2.1 0 (by decide)]), PLI_fr q5 p1 (by decide) (by decide), by rw [p2]; exact q6, by rw [p1.2.1 52 (by decide)]; exact q7⟩
