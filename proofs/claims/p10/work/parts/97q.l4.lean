/-! methods in words of INV, with what they are as functions -/
set_option maxHeartbeats 4000000 in
theorem L4_X11_feed {l : Launch} {V : Vx} {a1 : Int32} {σ0 : Sg} {Qk : Int32 → Sg → Prop} (q : INV V σ0) (h9ret : ∀ (r : Int32) (σ' : Sg), INV V σ' → (FX (fun id => id = 50) (fun id k => (id = 0 ∧ k = 7)) σ0 σ') → (F_X11_feed a1 σ0 = (r, σ')) → Qk r σ') : K_X11_feed l V a1 σ0 Qk := by
  refine kF_X11_feed q.1.1 (fun r σ' p0 p1 p2 => h9ret r σ' ?_ p1 p2)
  exact INV_fx (FX_tr FX_rf p1 (by intro id h9; (try dsimp only at h9) <;> unfold Sf <;> first | exact h9.elim | omega) (by intro id k h9; (try dsimp only at h9) <;> unfold Sf Ff <;> first | exact h9.elim | omega)) p0 q
set_option maxHeartbeats 4000000 in
theorem L4_X11_count {l : Launch} {V : Vx} {a1 : Int32} {σ0 : Sg} {Qk : Int32 → Sg → Prop} (q : INV V σ0) (h9ret : ∀ (r : Int32) (σ' : Sg), INV V σ' → (FX (fun id => False) (fun _ _ => False) σ0 σ') → (F_X11_count a1 σ0 = (r, σ')) → Qk r σ') : K_X11_count l V a1 σ0 Qk := by
  refine kF_X11_count q.1.1 (fun r σ' p0 p1 p2 => h9ret r σ' ?_ p1 p2)
  exact INV_fx (FX_tr FX_rf p1 (by intro id h9; (try dsimp only at h9) <;> unfold Sf <;> first | exact h9.elim | omega) (by intro id k h9; (try dsimp only at h9) <;> unfold Sf Ff <;> first | exact h9.elim | omega)) p0 q
set_option maxHeartbeats 4000000 in
theorem L4_X12_feed {l : Launch} {V : Vx} {a1 : Int32} {σ0 : Sg} {Qk : Int32 → Sg → Prop} (q : INV V σ0) (h9ret : ∀ (r : Int32) (σ' : Sg), INV V σ' → (Fr [74, 116] [13] σ0 σ') → (F_X12_feed a1 σ0 = (r, σ')) → Qk r σ') : K_X12_feed l V a1 σ0 Qk := by
  refine kF_X12_feed q.2.1 (fun r σ' p0 p1 p2 => h9ret r σ' ?_ p1 p2)
  refine INV_m p1 (by decide) q ?_
  obtain ⟨-, q1, q2, q3, q4, q5, q6, q7⟩ := q
  exact ⟨p0, by rw [p1.2.1 12 (by decide), p1.2.1 11 (by decide)]; exact q2, by rw [p1.2.1 50 (by decide), p1.2.1 11 (by decide)]; exact q3, PL_fr q4 p1 (by decide) (by decide), PLI_fr q5 p1 (by decide) (by decide), by rw [p1.2.1 1 (by decide)]; exact q6, by rw [p1.2.1 52 (by decide)]; exact q7⟩
set_option maxHeartbeats 4000000 in
theorem L4_X12_field {l : Launch} {V : Vx} {σ0 : Sg} {Qk : Int32 → Sg → Prop} (q : INV V σ0) (h9ret : ∀ (r : Int32) (σ' : Sg), INV V σ' → (Fr [74, 117, 118, 119, 120, 121, 122, 123] [11, 12, 13, 14, 15, 24, 25, 26] σ0 σ') → ((gi σ' 74 12).toInt < (gi σ' 74 11).toInt) → ((gi σ' 74 50).toInt < (gi σ' 74 11).toInt) → (F_X12_field σ0 = (r, σ')) → Qk r σ') : K_X12_field l V σ0 Qk := by
  refine kF_X12_field q.2.1 q.2.2.1 q.2.2.2.1 (fun r σ' p0 p1 p2 p3 p4 => h9ret r σ' ?_ p1 p2 p3 p4)
  refine INV_m p1 (by decide) q ?_
  obtain ⟨-, q1, q2, q3, q4, q5, q6, q7⟩ := q
  exact ⟨p0, p2, p3, PL_fr q4 p1 (by decide) (by decide), PLI_fr q5 p1 (by decide) (by decide), by rw [p1.2.1 1 (by decide)]; exact q6, by rw [p1.2.1 52 (by decide)]; exact q7⟩
set_option maxHeartbeats 4000000 in
theorem L4_X12_count {l : Launch} {V : Vx} {a1 : Int32} {σ0 : Sg} {Qk : Int32 → Sg → Prop} (q : INV V σ0) (h9ret : ∀ (r : Int32) (σ' : Sg), INV V σ' → (Fr [] [] σ0 σ') → (F_X12_count a1 σ0 = (r, σ')) → Qk r σ') : K_X12_count l V a1 σ0 Qk := by
  refine kF_X12_count q.2.1 (fun r σ' p0 p1 p2 => h9ret r σ' ?_ p1 p2)
  refine INV_m p1 (by decide) q ?_
  obtain ⟨-, q1, q2, q3, q4, q5, q6, q7⟩ := q
  exact ⟨p0, by rw [p1.2.1 12 (by decide), p1.2.1 11 (by decide)]; exact q2, by rw [p1.2.1 50 (by decide), p1.2.1 11 (by decide)]; exact q3, PL_fr q4 p1 (by decide) (by decide), PLI_fr q5 p1 (by decide) (by decide), by rw [p1.2.1 1 (by decide)]; exact q6, by rw [p1.2.1 52 (by decide)]; exact q7⟩
