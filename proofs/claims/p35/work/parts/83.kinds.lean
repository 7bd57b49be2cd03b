theorem pf_X4_init_7_0 : PF RX4 wsX4_init 7 0 0 "NineMowers$Mower" .int := by
  show _ ∧ _ ∧ _ ∧ _ ∧ _ ∧ _ ∧ _ ∧ _ ∧ _
  exact ⟨by decide, fun _ h => List.mem_cons_of_mem _ (List.mem_append_left _ (List.mem_append_left _ (List.mem_append_left _ (List.mem_append_left _ (List.mem_append_left _ (List.mem_append_left _ (List.mem_append_right _ h))))))), List.mem_of_getElem? (i := 4) rfl, rfl, rfl, rfl, by decide +kernel, ⟨tyX0, tyX0_ok⟩, nmX0⟩
theorem pf_X4_init_13_0 : PF RX4 wsX4_init 13 0 1 "NineMowers$Mower" .int := by
  show _ ∧ _ ∧ _ ∧ _ ∧ _ ∧ _ ∧ _ ∧ _ ∧ _
  exact ⟨by decide, fun _ h => List.mem_cons_of_mem _ (List.mem_append_left _ (List.mem_append_left _ (List.mem_append_left _ (List.mem_append_left _ (List.mem_append_left _ (List.mem_append_left _ (List.mem_append_right _ h))))))), List.mem_of_getElem? (i := 5) rfl, rfl, rfl, rfl, by decide +kernel, ⟨tyX0, tyX0_ok⟩, nmX0⟩
theorem pf_X4_init_16_0 : PF RX4 wsX4_init 16 0 2 "NineMowers$Mower" .int := by
  show _ ∧ _ ∧ _ ∧ _ ∧ _ ∧ _ ∧ _ ∧ _ ∧ _
  exact ⟨by decide, fun _ h => List.mem_cons_of_mem _ (List.mem_append_left _ (List.mem_append_left _ (List.mem_append_left _ (List.mem_append_left _ (List.mem_append_left _ (List.mem_append_left _ (List.mem_append_right _ h))))))), List.mem_of_getElem? (i := 6) rfl, rfl, rfl, rfl, by decide +kernel, ⟨tyX0, tyX0_ok⟩, nmX0⟩
theorem pf_X4_init_7_3 : PF RX4 wsX4_init 7 3 0 "NineMowers$Mower" .int := by
  show _ ∧ _ ∧ _ ∧ _ ∧ _ ∧ _ ∧ _ ∧ _ ∧ _
  exact ⟨by decide, fun _ h => List.mem_cons_of_mem _ (List.mem_append_left _ (List.mem_append_left _ (List.mem_append_left _ (List.mem_append_left _ (List.mem_append_left _ (List.mem_append_right _ h)))))), List.mem_of_getElem? (i := 4) rfl, rfl, rfl, rfl, by decide +kernel, ⟨tyX3, tyX3_ok⟩, nmX3⟩
theorem pf_X4_init_13_3 : PF RX4 wsX4_init 13 3 1 "NineMowers$Mower" .int := by
  show _ ∧ _ ∧ _ ∧ _ ∧ _ ∧ _ ∧ _ ∧ _ ∧ _
  exact ⟨by decide, fun _ h => List.mem_cons_of_mem _ (List.mem_append_left _ (List.mem_append_left _ (List.mem_append_left _ (List.mem_append_left _ (List.mem_append_left _ (List.mem_append_right _ h)))))), List.mem_of_getElem? (i := 5) rfl, rfl, rfl, rfl, by decide +kernel, ⟨tyX3, tyX3_ok⟩, nmX3⟩
theorem pf_X4_init_16_3 : PF RX4 wsX4_init 16 3 2 "NineMowers$Mower" .int := by
  show _ ∧ _ ∧ _ ∧ _ ∧ _ ∧ _ ∧ _ ∧ _ ∧ _
  exact ⟨by decide, fun _ h => List.mem_cons_of_mem _ (List.mem_append_left _ (List.mem_append_left _ (List.mem_append_left _ (List.mem_append_left _ (List.mem_append_left _ (List.mem_append_right _ h)))))), List.mem_of_getElem? (i := 6) rfl, rfl, rfl, rfl, by decide +kernel, ⟨tyX3, tyX3_ok⟩, nmX3⟩
theorem pf_X4_init_7_4 : PF RX4 wsX4_init 7 4 0 "NineMowers$Mower" .int := by
  show _ ∧ _ ∧ _ ∧ _ ∧ _ ∧ _ ∧ _ ∧ _ ∧ _
  exact ⟨by decide, fun _ h => List.mem_cons_of_mem _ (List.mem_append_left _ (List.mem_append_left _ (List.mem_append_left _ (List.mem_append_left _ (List.mem_append_right _ h))))), List.mem_of_getElem? (i := 4) rfl, rfl, rfl, rfl, by decide +kernel, ⟨tyX4, tyX4_ok⟩, nmX4⟩
theorem pf_X4_init_13_4 : PF RX4 wsX4_init 13 4 1 "NineMowers$Mower" .int := by
  show _ ∧ _ ∧ _ ∧ _ ∧ _ ∧ _ ∧ _ ∧ _ ∧ _
  exact ⟨by decide, fun _ h => List.mem_cons_of_mem _ (List.mem_append_left _ (List.mem_append_left _ (List.mem_append_left _ (List.mem_append_left _ (List.mem_append_right _ h))))), List.mem_of_getElem? (i := 5) rfl, rfl, rfl, rfl, by decide +kernel, ⟨tyX4, tyX4_ok⟩, nmX4⟩
theorem pf_X4_init_16_4 : PF RX4 wsX4_init 16 4 2 "NineMowers$Mower" .int := by
  show _ ∧ _ ∧ _ ∧ _ ∧ _ ∧ _ ∧ _ ∧ _ ∧ _
  exact ⟨by decide, fun _ h => List.mem_cons_of_mem _ (List.mem_append_left _ (List.mem_append_left _ (List.mem_append_left _ (List.mem_append_left _ (List.mem_append_right _ h))))), List.mem_of_getElem? (i := 6) rfl, rfl, rfl, rfl, by decide +kernel, ⟨tyX4, tyX4_ok⟩, nmX4⟩
theorem pf_X4_init_7_6 : PF RX4 wsX4_init 7 6 0 "NineMowers$Mower" .int := by
  show _ ∧ _ ∧ _ ∧ _ ∧ _ ∧ _ ∧ _ ∧ _ ∧ _
  exact ⟨by decide, fun _ h => List.mem_cons_of_mem _ (List.mem_append_left _ (List.mem_append_left _ (List.mem_append_left _ (List.mem_append_right _ h)))), List.mem_of_getElem? (i := 4) rfl, rfl, rfl, rfl, by decide +kernel, ⟨tyX6, tyX6_ok⟩, nmX6⟩
theorem pf_X4_init_13_6 : PF RX4 wsX4_init 13 6 1 "NineMowers$Mower" .int := by
  show _ ∧ _ ∧ _ ∧ _ ∧ _ ∧ _ ∧ _ ∧ _ ∧ _
  exact ⟨by decide, fun _ h => List.mem_cons_of_mem _ (List.mem_append_left _ (List.mem_append_left _ (List.mem_append_left _ (List.mem_append_right _ h)))), List.mem_of_getElem? (i := 5) rfl, rfl, rfl, rfl, by decide +kernel, ⟨tyX6, tyX6_ok⟩, nmX6⟩
theorem pf_X4_init_16_6 : PF RX4 wsX4_init 16 6 2 "NineMowers$Mower" .int := by
  show _ ∧ _ ∧ _ ∧ _ ∧ _ ∧ _ ∧ _ ∧ _ ∧ _
  exact ⟨by decide, fun _ h => List.mem_cons_of_mem _ (List.mem_append_left _ (List.mem_append_left _ (List.mem_append_left _ (List.mem_append_right _ h)))), List.mem_of_getElem? (i := 6) rfl, rfl, rfl, rfl, by decide +kernel, ⟨tyX6, tyX6_ok⟩, nmX6⟩
theorem pf_X4_init_7_7 : PF RX4 wsX4_init 7 7 0 "NineMowers$Mower" .int := by
  show _ ∧ _ ∧ _ ∧ _ ∧ _ ∧ _ ∧ _ ∧ _ ∧ _
  exact ⟨by decide, fun _ h => List.mem_cons_of_mem _ (List.mem_append_left _ (List.mem_append_left _ (List.mem_append_right _ h))), List.mem_of_getElem? (i := 4) rfl, rfl, rfl, rfl, by decide +kernel, ⟨tyX7, tyX7_ok⟩, nmX7⟩
theorem pf_X4_init_13_7 : PF RX4 wsX4_init 13 7 1 "NineMowers$Mower" .int := by
  show _ ∧ _ ∧ _ ∧ _ ∧ _ ∧ _ ∧ _ ∧ _ ∧ _
  exact ⟨by decide, fun _ h => List.mem_cons_of_mem _ (List.mem_append_left _ (List.mem_append_left _ (List.mem_append_right _ h))), List.mem_of_getElem? (i := 5) rfl, rfl, rfl, rfl, by decide +kernel, ⟨tyX7, tyX7_ok⟩, nmX7⟩
theorem pf_X4_init_16_7 : PF RX4 wsX4_init 16 7 2 "NineMowers$Mower" .int := by
  show _ ∧ _ ∧ _ ∧ _ ∧ _ ∧ _ ∧ _ ∧ _ ∧ _
  exact ⟨by decide, fun _ h => List.mem_cons_of_mem _ (List.mem_append_left _ (List.mem_append_left _ (List.mem_append_right _ h))), List.mem_of_getElem? (i := 6) rfl, rfl, rfl, rfl, by decide +kernel, ⟨tyX7, tyX7_ok⟩, nmX7⟩
theorem pf_X4_init_7_8 : PF RX4 wsX4_init 7 8 0 "NineMowers$Mower" .int := by
  show _ ∧ _ ∧ _ ∧ _ ∧ _ ∧ _ ∧ _ ∧ _ ∧ _
  exact ⟨by decide, fun _ h => List.mem_cons_of_mem _ (List.mem_append_left _ (List.mem_append_right _ h)), List.mem_of_getElem? (i := 4) rfl, rfl, rfl, rfl, by decide +kernel, ⟨tyX8, tyX8_ok⟩, nmX8⟩
theorem pf_X4_init_13_8 : PF RX4 wsX4_init 13 8 1 "NineMowers$Mower" .int := by
  show _ ∧ _ ∧ _ ∧ _ ∧ _ ∧ _ ∧ _ ∧ _ ∧ _
  exact ⟨by decide, fun _ h => List.mem_cons_of_mem _ (List.mem_append_left _ (List.mem_append_right _ h)), List.mem_of_getElem? (i := 5) rfl, rfl, rfl, rfl, by decide +kernel, ⟨tyX8, tyX8_ok⟩, nmX8⟩
theorem pf_X4_init_16_8 : PF RX4 wsX4_init 16 8 2 "NineMowers$Mower" .int := by
  show _ ∧ _ ∧ _ ∧ _ ∧ _ ∧ _ ∧ _ ∧ _ ∧ _
  exact ⟨by decide, fun _ h => List.mem_cons_of_mem _ (List.mem_append_left _ (List.mem_append_right _ h)), List.mem_of_getElem? (i := 6) rfl, rfl, rfl, rfl, by decide +kernel, ⟨tyX8, tyX8_ok⟩, nmX8⟩
theorem pf_X4_init_7_10 : PF RX4 wsX4_init 7 10 0 "NineMowers$Mower" .int := by
  show _ ∧ _ ∧ _ ∧ _ ∧ _ ∧ _ ∧ _ ∧ _ ∧ _
  exact ⟨by decide, fun _ h => List.mem_cons_of_mem _ (List.mem_append_right _ h), List.mem_of_getElem? (i := 4) rfl, rfl, rfl, rfl, by decide +kernel, ⟨tyX10, tyX10_ok⟩, nmX10⟩
theorem pf_X4_init_13_10 : PF RX4 wsX4_init 13 10 1 "NineMowers$Mower" .int := by
  show _ ∧ _ ∧ _ ∧ _ ∧ _ ∧ _ ∧ _ ∧ _ ∧ _
  exact ⟨by decide, fun _ h => List.mem_cons_of_mem _ (List.mem_append_right _ h), List.mem_of_getElem? (i := 5) rfl, rfl, rfl, rfl, by decide +kernel, ⟨tyX10, tyX10_ok⟩, nmX10⟩
theorem pf_X4_init_16_10 : PF RX4 wsX4_init 16 10 2 "NineMowers$Mower" .int := by
  show _ ∧ _ ∧ _ ∧ _ ∧ _ ∧ _ ∧ _ ∧ _ ∧ _
  exact ⟨by decide, fun _ h => List.mem_cons_of_mem _ (List.mem_append_right _ h), List.mem_of_getElem? (i := 6) rfl, rfl, rfl, rfl, by decide +kernel, ⟨tyX10, tyX10_ok⟩, nmX10⟩
theorem pf_X4_init_7 {ci : Nat} (h : isMc ci) : PF RX4 wsX4_init 7 ci 0 "NineMowers$Mower" .int := by
  rcases h with rfl | rfl | rfl | rfl | rfl | rfl | rfl
  · exact pf_X4_init_7_0
  · exact pf_X4_init_7_3
  · exact pf_X4_init_7_4
  · exact pf_X4_init_7_6
  · exact pf_X4_init_7_7
  · exact pf_X4_init_7_8
  · exact pf_X4_init_7_10
theorem pf_X4_init_13 {ci : Nat} (h : isMc ci) : PF RX4 wsX4_init 13 ci 1 "NineMowers$Mower" .int := by
  rcases h with rfl | rfl | rfl | rfl | rfl | rfl | rfl
  · exact pf_X4_init_13_0
  · exact pf_X4_init_13_3
  · exact pf_X4_init_13_4
  · exact pf_X4_init_13_6
  · exact pf_X4_init_13_7
  · exact pf_X4_init_13_8
  · exact pf_X4_init_13_10
theorem pf_X4_init_16 {ci : Nat} (h : isMc ci) : PF RX4 wsX4_init 16 ci 2 "NineMowers$Mower" .int := by
  rcases h with rfl | rfl | rfl | rfl | rfl | rfl | rfl
  · exact pf_X4_init_16_0
  · exact pf_X4_init_16_3
  · exact pf_X4_init_16_4
  · exact pf_X4_init_16_6
  · exact pf_X4_init_16_7
  · exact pf_X4_init_16_8
  · exact pf_X4_init_16_10
/-- a mower is set up -/
noncomputable def KB (ci : Nat) (k n v : Int32) (ω0 : RWd) (h : Nat) (ω : RWd) : Prop := BT ω0 ω h [] ∧ ω.2 h = .inr (ci, [.int k, .int n, .int v])
set_option maxRecDepth 100000 in
set_option maxHeartbeats 8000000 in
theorem k_X4_init {l : Launch} {V : Vx} {h ci : Nat} {ω0 : RWd} {k n v : Int32} (hm : h ∈ ω0.1) (hci : isMc ci) (c0 : ω0.2 h = .inr (ci, [.int 0, .int 0, .int 0])) : Kr l V yX4_init wsX4_init (rmr 1 0 0) 0 0 [.ref h, .int k, .int n, .int v] ω0 (QRV V (KB ci k n v ω0 h)) := by
  refine Kr_of (by decide +kernel) rfl rfl (Nat.le_of_ble_eq_true rfl) (fun M hl hV hN C hI => ?_)
  subst hl
  subst hV
  replace hI := hI rfl
  have b0 := BT_0 hm
  show PR M 0 [(0, .ref h), (1, .int k), (2, .int n), (3, .int v)] [] ω0 (0, 0)
  refine Z_aload_n C dX4_init_0 0 rfl ?_
  refine Z_objInit C (List.mem_of_getElem? (i := 1) rfl) (List.mem_of_getElem? (i := 2) rfl) (List.mem_of_getElem? (i := 3) rfl) (Nat.le_of_ble_eq_true rfl) (Nat.le_of_ble_eq_true rfl) dX4_init_1 ?_
  refine Z_aload_n C dX4_init_4 0 rfl ?_
  refine Z_iload_n C dX4_init_5 1 rfl ?_
  refine Y_putF C hI (pf_X4_init_7 hci) b0 c0 rfl rfl (Nat.le_of_ble_eq_true rfl) dX4_init_6 (fun ω1 b1 c1 => ?_)
  have c1 : ω1.2 h = .inr (ci, [.int k, .int 0, .int 0]) := c1
  refine Z_aload_n C dX4_init_9 0 rfl ?_
  refine Z_iload_n C dX4_init_10 2 rfl ?_
  refine Y_putF C hI (pf_X4_init_13 hci) b1 c1 rfl rfl (Nat.le_of_ble_eq_true rfl) dX4_init_11 (fun ω2 b2 c2 => ?_)
  have c2 : ω2.2 h = .inr (ci, [.int k, .int n, .int 0]) := c2
  refine Z_aload_n C dX4_init_14 0 rfl ?_
  refine Z_iload_n C dX4_init_15 3 rfl ?_
  refine Y_putF C hI (pf_X4_init_16 hci) b2 c2 rfl rfl (Nat.le_of_ble_eq_true rfl) dX4_init_16 (fun ω3 b3 c3 => ?_)
  have c3 : ω3.2 h = .inr (ci, [.int k, .int n, .int v]) := c3
  exact Z_vret C dX4_init_19 ⟨b3, c3⟩
theorem ki_X8_init_X4_init_1 {c s c2 s2 : Nat} : KI RX8 wsX8_init (rmr 2 c s) 1 yX4_init wsX4_init (rmr 1 c2 s2) 3 := ⟨_, _, _, gX8_init_X4_init, rfl, (List.mem_of_getElem? (i := 3) rfl), (List.mem_of_getElem? (i := 1) rfl), (List.mem_of_getElem? (i := 2) rfl), rfl, by decide +kernel, Nat.le_of_ble_eq_true rfl, Nat.le_of_ble_eq_true rfl⟩
set_option maxRecDepth 100000 in
set_option maxHeartbeats 8000000 in
theorem k_X8_init {l : Launch} {V : Vx} {h ci : Nat} {ω0 : RWd} {k n v : Int32} (hm : h ∈ ω0.1) (hci : isMc ci) (c0 : ω0.2 h = .inr (ci, [.int 0, .int 0, .int 0])) : Kr l V yX8_init wsX8_init (rmr 2 0 0) 0 0 [.ref h, .int k, .int n, .int v] ω0 (QRV V (KB ci k n v ω0 h)) := by
  refine Kr_of (by decide +kernel) rfl rfl (Nat.le_of_ble_eq_true rfl) (fun M hl hV hN C hI => ?_)
  subst hl
  subst hV
  replace hI := hI rfl
  have b0 := BT_0 hm
  show PR M 0 [(0, .ref h), (1, .int k), (2, .int n), (3, .int v)] [] ω0 (0, 0)
  refine Z_aload_n C dX8_init_0 0 rfl ?_
  refine Z_iload_n C dX8_init_1 1 rfl ?_
  refine Z_iload_n C dX8_init_2 2 rfl ?_
  refine Z_iload_n C dX8_init_3 3 rfl ?_
  refine Z_ci (rc0 := rmr 1 0 0) (Qk := KB ci k n v ω0 h) (b := h) (As := [.int k, .int n, .int v]) C ki_X8_init_X4_init_1 rfl (Nat.le_of_ble_eq_true rfl) dX8_init_4 ⟨Nat.le_refl _, Nat.le_refl _⟩ (k_X4_init hm hci c0) (fun ω1 h1 => ?_)
  exact Z_vret C dX8_init_7 h1
theorem ki_X3_init_X4_init_1 {c s c2 s2 : Nat} : KI RX3 wsX3_init (rmr 2 c s) 1 yX4_init wsX4_init (rmr 1 c2 s2) 3 := ⟨_, _, _, gX3_init_X4_init, rfl, (List.mem_of_getElem? (i := 3) rfl), (List.mem_of_getElem? (i := 1) rfl), (List.mem_of_getElem? (i := 2) rfl), rfl, by decide +kernel, Nat.le_of_ble_eq_true rfl, Nat.le_of_ble_eq_true rfl⟩
set_option maxRecDepth 100000 in
set_option maxHeartbeats 8000000 in
theorem k_X3_init {l : Launch} {V : Vx} {h ci : Nat} {ω0 : RWd} {k n v : Int32} (hm : h ∈ ω0.1) (hci : isMc ci) (c0 : ω0.2 h = .inr (ci, [.int 0, .int 0, .int 0])) : Kr l V yX3_init wsX3_init (rmr 2 0 0) 0 0 [.ref h, .int k, .int n, .int v] ω0 (QRV V (KB ci k n v ω0 h)) := by
  refine Kr_of (by decide +kernel) rfl rfl (Nat.le_of_ble_eq_true rfl) (fun M hl hV hN C hI => ?_)
  subst hl
  subst hV
  replace hI := hI rfl
  have b0 := BT_0 hm
  show PR M 0 [(0, .ref h), (1, .int k), (2, .int n), (3, .int v)] [] ω0 (0, 0)
  refine Z_aload_n C dX3_init_0 0 rfl ?_
  refine Z_iload_n C dX3_init_1 1 rfl ?_
  refine Z_iload_n C dX3_init_2 2 rfl ?_
  refine Z_iload_n C dX3_init_3 3 rfl ?_
  refine Z_ci (rc0 := rmr 1 0 0) (Qk := KB ci k n v ω0 h) (b := h) (As := [.int k, .int n, .int v]) C ki_X3_init_X4_init_1 rfl (Nat.le_of_ble_eq_true rfl) dX3_init_4 ⟨Nat.le_refl _, Nat.le_refl _⟩ (k_X4_init hm hci c0) (fun ω1 h1 => ?_)
  exact Z_vret C dX3_init_7 h1
theorem ki_X0_init_X4_init_1 {c s c2 s2 : Nat} : KI RX0 wsX0_init (rmr 2 c s) 1 yX4_init wsX4_init (rmr 1 c2 s2) 3 := ⟨_, _, _, gX0_init_X4_init, rfl, (List.mem_of_getElem? (i := 3) rfl), (List.mem_of_getElem? (i := 1) rfl), (List.mem_of_getElem? (i := 2) rfl), rfl, by decide +kernel, Nat.le_of_ble_eq_true rfl, Nat.le_of_ble_eq_true rfl⟩
set_option maxRecDepth 100000 in
set_option maxHeartbeats 8000000 in
theorem k_X0_init {l : Launch} {V : Vx} {h ci : Nat} {ω0 : RWd} {k n v : Int32} (hm : h ∈ ω0.1) (hci : isMc ci) (c0 : ω0.2 h = .inr (ci, [.int 0, .int 0, .int 0])) : Kr l V yX0_init wsX0_init (rmr 2 0 0) 0 0 [.ref h, .int k, .int n, .int v] ω0 (QRV V (KB ci k n v ω0 h)) := by
  refine Kr_of (by decide +kernel) rfl rfl (Nat.le_of_ble_eq_true rfl) (fun M hl hV hN C hI => ?_)
  subst hl
  subst hV
  replace hI := hI rfl
  have b0 := BT_0 hm
  show PR M 0 [(0, .ref h), (1, .int k), (2, .int n), (3, .int v)] [] ω0 (0, 0)
  refine Z_aload_n C dX0_init_0 0 rfl ?_
  refine Z_iload_n C dX0_init_1 1 rfl ?_
  refine Z_iload_n C dX0_init_2 2 rfl ?_
  refine Z_iload_n C dX0_init_3 3 rfl ?_
  refine Z_ci (rc0 := rmr 1 0 0) (Qk := KB ci k n v ω0 h) (b := h) (As := [.int k, .int n, .int v]) C ki_X0_init_X4_init_1 rfl (Nat.le_of_ble_eq_true rfl) dX0_init_4 ⟨Nat.le_refl _, Nat.le_refl _⟩ (k_X4_init hm hci c0) (fun ω1 h1 => ?_)
  exact Z_vret C dX0_init_7 h1
theorem ki_X6_init_X8_init_1 {c s c2 s2 : Nat} : KI RX6 wsX6_init (rmr 3 c s) 1 yX8_init wsX8_init (rmr 2 c2 s2) 3 := ⟨_, _, _, gX6_init_X8_init, rfl, (List.mem_of_getElem? (i := 3) rfl), (List.mem_of_getElem? (i := 1) rfl), (List.mem_of_getElem? (i := 2) rfl), rfl, by decide +kernel, Nat.le_of_ble_eq_true rfl, Nat.le_of_ble_eq_true rfl⟩
set_option maxRecDepth 100000 in
set_option maxHeartbeats 8000000 in
theorem k_X6_init {l : Launch} {V : Vx} {h ci : Nat} {ω0 : RWd} {k n v : Int32} (hm : h ∈ ω0.1) (hci : isMc ci) (c0 : ω0.2 h = .inr (ci, [.int 0, .int 0, .int 0])) : Kr l V yX6_init wsX6_init (rmr 3 0 0) 0 0 [.ref h, .int k, .int n, .int v] ω0 (QRV V (KB ci k n v ω0 h)) := by
  refine Kr_of (by decide +kernel) rfl rfl (Nat.le_of_ble_eq_true rfl) (fun M hl hV hN C hI => ?_)
  subst hl
  subst hV
  replace hI := hI rfl
  have b0 := BT_0 hm
  show PR M 0 [(0, .ref h), (1, .int k), (2, .int n), (3, .int v)] [] ω0 (0, 0)
  refine Z_aload_n C dX6_init_0 0 rfl ?_
  refine Z_iload_n C dX6_init_1 1 rfl ?_
  refine Z_iload_n C dX6_init_2 2 rfl ?_
  refine Z_iload_n C dX6_init_3 3 rfl ?_
  refine Z_ci (rc0 := rmr 2 0 0) (Qk := KB ci k n v ω0 h) (b := h) (As := [.int k, .int n, .int v]) C ki_X6_init_X8_init_1 rfl (Nat.le_of_ble_eq_true rfl) dX6_init_4 ⟨Nat.le_refl _, Nat.le_refl _⟩ (k_X8_init hm hci c0) (fun ω1 h1 => ?_)
  exact Z_vret C dX6_init_7 h1
theorem ki_X7_init_X3_init_1 {c s c2 s2 : Nat} : KI RX7 wsX7_init (rmr 3 c s) 1 yX3_init wsX3_init (rmr 2 c2 s2) 3 := ⟨_, _, _, gX7_init_X3_init, rfl, (List.mem_of_getElem? (i := 3) rfl), (List.mem_of_getElem? (i := 1) rfl), (List.mem_of_getElem? (i := 2) rfl), rfl, by decide +kernel, Nat.le_of_ble_eq_true rfl, Nat.le_of_ble_eq_true rfl⟩
set_option maxRecDepth 100000 in
set_option maxHeartbeats 8000000 in
theorem k_X7_init {l : Launch} {V : Vx} {h ci : Nat} {ω0 : RWd} {k n v : Int32} (hm : h ∈ ω0.1) (hci : isMc ci) (c0 : ω0.2 h = .inr (ci, [.int 0, .int 0, .int 0])) : Kr l V yX7_init wsX7_init (rmr 3 0 0) 0 0 [.ref h, .int k, .int n, .int v] ω0 (QRV V (KB ci k n v ω0 h)) := by
  refine Kr_of (by decide +kernel) rfl rfl (Nat.le_of_ble_eq_true rfl) (fun M hl hV hN C hI => ?_)
  subst hl
  subst hV
  replace hI := hI rfl
  have b0 := BT_0 hm
  show PR M 0 [(0, .ref h), (1, .int k), (2, .int n), (3, .int v)] [] ω0 (0, 0)
  refine Z_aload_n C dX7_init_0 0 rfl ?_
  refine Z_iload_n C dX7_init_1 1 rfl ?_
  refine Z_iload_n C dX7_init_2 2 rfl ?_
  refine Z_iload_n C dX7_init_3 3 rfl ?_
  refine Z_ci (rc0 := rmr 2 0 0) (Qk := KB ci k n v ω0 h) (b := h) (As := [.int k, .int n, .int v]) C ki_X7_init_X3_init_1 rfl (Nat.le_of_ble_eq_true rfl) dX7_init_4 ⟨Nat.le_refl _, Nat.le_refl _⟩ (k_X3_init hm hci c0) (fun ω1 h1 => ?_)
  exact Z_vret C dX7_init_7 h1
theorem ki_X10_init_X0_init_1 {c s c2 s2 : Nat} : KI RX10 wsX10_init (rmr 3 c s) 1 yX0_init wsX0_init (rmr 2 c2 s2) 3 := ⟨_, _, _, gX10_init_X0_init, rfl, (List.mem_of_getElem? (i := 3) rfl), (List.mem_of_getElem? (i := 1) rfl), (List.mem_of_getElem? (i := 2) rfl), rfl, by decide +kernel, Nat.le_of_ble_eq_true rfl, Nat.le_of_ble_eq_true rfl⟩
set_option maxRecDepth 100000 in
set_option maxHeartbeats 8000000 in
theorem k_X10_init {l : Launch} {V : Vx} {h ci : Nat} {ω0 : RWd} {k n v : Int32} (hm : h ∈ ω0.1) (hci : isMc ci) (c0 : ω0.2 h = .inr (ci, [.int 0, .int 0, .int 0])) : Kr l V yX10_init wsX10_init (rmr 3 0 0) 0 0 [.ref h, .int k, .int n, .int v] ω0 (QRV V (KB ci k n v ω0 h)) := by
  refine Kr_of (by decide +kernel) rfl rfl (Nat.le_of_ble_eq_true rfl) (fun M hl hV hN C hI => ?_)
  subst hl
  subst hV
  replace hI := hI rfl
  have b0 := BT_0 hm
  show PR M 0 [(0, .ref h), (1, .int k), (2, .int n), (3, .int v)] [] ω0 (0, 0)
  refine Z_aload_n C dX10_init_0 0 rfl ?_
  refine Z_iload_n C dX10_init_1 1 rfl ?_
  refine Z_iload_n C dX10_init_2 2 rfl ?_
  refine Z_iload_n C dX10_init_3 3 rfl ?_
  refine Z_ci (rc0 := rmr 2 0 0) (Qk := KB ci k n v ω0 h) (b := h) (As := [.int k, .int n, .int v]) C ki_X10_init_X0_init_1 rfl (Nat.le_of_ble_eq_true rfl) dX10_init_4 ⟨Nat.le_refl _, Nat.le_refl _⟩ (k_X0_init hm hci c0) (fun ω1 h1 => ?_)
  exact Z_vret C dX10_init_7 h1
/-- a number's kind among the kinds of objects -/
noncomputable def kci (k : Int32) : Nat := if k.toInt = 1 then 8 else if k.toInt = 2 then 3 else if k.toInt = 3 then 0 else if k.toInt = 4 then 6 else if k.toInt = 5 then 7 else if k.toInt = 6 then 10 else 4
theorem kci_mc (k : Int32) : isMc (kci k) := by
  unfold kci
  repeat' split
  all_goals decide
theorem kci_0 {k : Int32} (h : k.toInt < 1 ∨ 6 < k.toInt) : kci k = 4 := by
  unfold kci
  rw [if_neg (by omega), if_neg (by omega), if_neg (by omega), if_neg (by omega), if_neg (by omega), if_neg (by omega)]
theorem kci_1 {k : Int32} (h : k.toInt = 1) : kci k = 8 := by
  unfold kci
  rw [if_pos h]
theorem kci_2 {k : Int32} (h : k.toInt = 2) : kci k = 3 := by
  unfold kci
  rw [if_neg (by omega), if_pos h]
theorem kci_3 {k : Int32} (h : k.toInt = 3) : kci k = 0 := by
  unfold kci
  rw [if_neg (by omega), if_neg (by omega), if_pos h]
theorem kci_4 {k : Int32} (h : k.toInt = 4) : kci k = 6 := by
  unfold kci
  rw [if_neg (by omega), if_neg (by omega), if_neg (by omega), if_pos h]
theorem kci_5 {k : Int32} (h : k.toInt = 5) : kci k = 7 := by
  unfold kci
  rw [if_neg (by omega), if_neg (by omega), if_neg (by omega), if_neg (by omega), if_pos h]
theorem kci_6 {k : Int32} (h : k.toInt = 6) : kci k = 10 := by
  unfold kci
  rw [if_neg (by omega), if_neg (by omega), if_neg (by omega), if_neg (by omega), if_neg (by omega), if_pos h]
/-- a mower is made: it is there, apart from all that was, which stays -/
noncomputable def GB (k n v : Int32) (ω0 : RWd) (q : Nat) (ω : RWd) : Prop := q ∉ ω0.1 ∧ q ∈ ω.1 ∧ (∀ a ∈ ω0.1, a ∈ ω.1 ∧ ω.2 a = ω0.2 a) ∧ ω.2 q = .inr (kci k, [.int k, .int n, .int v])
theorem GB_mk {ω0 ω : RWd} {q ci : Nat} {k n v : Int32} (hq : q ∉ ω0.1) (h : KB ci k n v (rnew ω0 q (.inr (ci, [.int 0, .int 0, .int 0]))) q ω) (hk : kci k = ci) : GB k n v ω0 q ω := by
  obtain ⟨⟨b1, b2, b3, b4⟩, c⟩ := h
  refine ⟨hq, (b2 q b1).1, fun a ha => ?_, by rw [hk]; exact c⟩
  have hne : a ≠ q := fun z => hq (z ▸ ha)
  have h2 := b2 a (List.mem_append_left _ ha)
  refine ⟨h2.1, (h2.2 hne).trans ?_⟩
  show va_up ω0.2 q _ a = _
  rw [va_up_ne _ _ hne]
theorem ki_X11_made_X4_init_109 {c s c2 s2 : Nat} : KI RX11 wsX11_made (rmr 4 c s) 109 yX4_init wsX4_init (rmr 1 c2 s2) 3 := ⟨_, _, _, gX11_made_X4_init, rfl, (List.mem_of_getElem? (i := 21) rfl), (List.mem_of_getElem? (i := 54) rfl), (List.mem_of_getElem? (i := 26) rfl), rfl, by decide +kernel, Nat.le_of_ble_eq_true rfl, Nat.le_of_ble_eq_true rfl⟩
theorem ki_X11_made_X8_init_89 {c s c2 s2 : Nat} : KI RX11 wsX11_made (rmr 4 c s) 89 yX8_init wsX8_init (rmr 2 c2 s2) 3 := ⟨_, _, _, gX11_made_X8_init, rfl, (List.mem_of_getElem? (i := 3) rfl), (List.mem_of_getElem? (i := 22) rfl), (List.mem_of_getElem? (i := 23) rfl), rfl, by decide +kernel, Nat.le_of_ble_eq_true rfl, Nat.le_of_ble_eq_true rfl⟩
theorem ki_X11_made_X3_init_94 {c s c2 s2 : Nat} : KI RX11 wsX11_made (rmr 4 c s) 94 yX3_init wsX3_init (rmr 2 c2 s2) 3 := ⟨_, _, _, gX11_made_X3_init, rfl, (List.mem_of_getElem? (i := 6) rfl), (List.mem_of_getElem? (i := 34) rfl), (List.mem_of_getElem? (i := 35) rfl), rfl, by decide +kernel, Nat.le_of_ble_eq_true rfl, Nat.le_of_ble_eq_true rfl⟩
theorem ki_X11_made_X0_init_97 {c s c2 s2 : Nat} : KI RX11 wsX11_made (rmr 4 c s) 97 yX0_init wsX0_init (rmr 2 c2 s2) 3 := ⟨_, _, _, gX11_made_X0_init, rfl, (List.mem_of_getElem? (i := 9) rfl), (List.mem_of_getElem? (i := 38) rfl), (List.mem_of_getElem? (i := 39) rfl), rfl, by decide +kernel, Nat.le_of_ble_eq_true rfl, Nat.le_of_ble_eq_true rfl⟩
theorem ki_X11_made_X6_init_100 {c s c2 s2 : Nat} : KI RX11 wsX11_made (rmr 4 c s) 100 yX6_init wsX6_init (rmr 3 c2 s2) 3 := ⟨_, _, _, gX11_made_X6_init, rfl, (List.mem_of_getElem? (i := 12) rfl), (List.mem_of_getElem? (i := 42) rfl), (List.mem_of_getElem? (i := 43) rfl), rfl, by decide +kernel, Nat.le_of_ble_eq_true rfl, Nat.le_of_ble_eq_true rfl⟩
theorem ki_X11_made_X7_init_103 {c s c2 s2 : Nat} : KI RX11 wsX11_made (rmr 4 c s) 103 yX7_init wsX7_init (rmr 3 c2 s2) 3 := ⟨_, _, _, gX11_made_X7_init, rfl, (List.mem_of_getElem? (i := 15) rfl), (List.mem_of_getElem? (i := 46) rfl), (List.mem_of_getElem? (i := 47) rfl), rfl, by decide +kernel, Nat.le_of_ble_eq_true rfl, Nat.le_of_ble_eq_true rfl⟩
theorem ki_X11_made_X10_init_106 {c s c2 s2 : Nat} : KI RX11 wsX11_made (rmr 4 c s) 106 yX10_init wsX10_init (rmr 3 c2 s2) 3 := ⟨_, _, _, gX11_made_X10_init, rfl, (List.mem_of_getElem? (i := 18) rfl), (List.mem_of_getElem? (i := 50) rfl), (List.mem_of_getElem? (i := 51) rfl), rfl, by decide +kernel, Nat.le_of_ble_eq_true rfl, Nat.le_of_ble_eq_true rfl⟩
set_option maxRecDepth 100000 in
set_option maxHeartbeats 8000000 in
theorem k_X11_made {l : Launch} {V : Vx} {ω0 : RWd} {k n v : Int32} (hU : UPV V) : Kr l V yX11_made wsX11_made (rmr 4 1 3) 1 3 [.int k, .int n, .int v] ω0 (QRR V (GB k n v ω0)) := by
  refine Kr_of (by decide +kernel) rfl rfl (Nat.le_of_ble_eq_true rfl) (fun M hl hV hN C _ => ?_)
  subst hl
  subst hV
  show PR M 0 [(0, .int k), (1, .int n), (2, .int v)] [] ω0 (0, 0)
  refine Z_iload_n C dX11_made_0 0 rfl ?_
  refine Z_tsw C dX11_made_1 106 (by decide) (fun hk => ?_) (by decide) (fun i off ho hk => ?_)
  · refine Z_new (fs := [.int 0, .int 0, .int 0]) C hU (ci := 4) rfl (fun _ h => List.mem_cons_of_mem _ (List.mem_append_right _ h)) tyX4_ok (List.mem_of_getElem? (i := 19) rfl) (List.mem_of_getElem? (i := 20) rfl) (List.mem_of_getElem? (i := 21) rfl) dfX4 (Nat.le_of_ble_eq_true rfl) (Nat.le_of_ble_eq_true rfl) dX11_made_106 (fun q hq => ?_)
    refine Z_dup C dX11_made_109 rfl ?_
    refine Z_iload_n C dX11_made_110 0 rfl ?_
    refine Z_iload_n C dX11_made_111 1 rfl ?_
    refine Z_iload_n C dX11_made_112 2 rfl ?_
    refine Z_ci (rc0 := rmr 1 0 0) (Qk := KB 4 k n v (rnew ω0 q (.inr (4, [.int 0, .int 0, .int 0]))) q) (b := q) (As := [.int k, .int n, .int v]) C ki_X11_made_X4_init_109 rfl (Nat.le_of_ble_eq_true rfl) dX11_made_113 ⟨Nat.le_of_ble_eq_true rfl, Nat.le_of_ble_eq_true rfl⟩ (k_X4_init (List.mem_append_right _ (List.mem_singleton.mpr rfl)) (by decide) (va_up_self _ _ _)) (fun ω1 h1 => ?_)
    refine Z_aret C (Or.inl ⟨_, rfl⟩) dX11_made_116 ?_
    exact GB_mk hq h1 (kci_0 hk)
  · rcases i with _ | _ | _ | _ | _ | _ | i
    · obtain rfl : (39 : Int) = off := Option.some.inj ho
      refine ⟨?_, by decide⟩
      show PR M 40 _ _ _ _
      have hk : k.toInt = 1 := by simp at hk; omega
      refine Z_new (fs := [.int 0, .int 0, .int 0]) C hU (ci := 8) rfl (fun _ h => List.mem_cons_of_mem _ (List.mem_append_left _ (List.mem_append_left _ (List.mem_append_left _ (List.mem_append_left _ (List.mem_append_left _ (List.mem_append_left _ (List.mem_append_right _ h)))))))) tyX8_ok (List.mem_of_getElem? (i := 1) rfl) (List.mem_of_getElem? (i := 2) rfl) (List.mem_of_getElem? (i := 3) rfl) dfX8 (Nat.le_of_ble_eq_true rfl) (Nat.le_of_ble_eq_true rfl) dX11_made_40 (fun q hq => ?_)
      refine Z_dup C dX11_made_43 rfl ?_
      refine Z_iload_n C dX11_made_44 0 rfl ?_
      refine Z_iload_n C dX11_made_45 1 rfl ?_
      refine Z_iload_n C dX11_made_46 2 rfl ?_
      refine Z_ci (rc0 := rmr 2 0 0) (Qk := KB 8 k n v (rnew ω0 q (.inr (8, [.int 0, .int 0, .int 0]))) q) (b := q) (As := [.int k, .int n, .int v]) C ki_X11_made_X8_init_89 rfl (Nat.le_of_ble_eq_true rfl) dX11_made_47 ⟨Nat.le_of_ble_eq_true rfl, Nat.le_of_ble_eq_true rfl⟩ (k_X8_init (List.mem_append_right _ (List.mem_singleton.mpr rfl)) (by decide) (va_up_self _ _ _)) (fun ω1 h1 => ?_)
      refine Z_aret C (Or.inl ⟨_, rfl⟩) dX11_made_50 ?_
      exact GB_mk hq h1 (kci_1 hk)
    · obtain rfl : (50 : Int) = off := Option.some.inj ho
      refine ⟨?_, by decide⟩
      show PR M 51 _ _ _ _
      have hk : k.toInt = 2 := by simp at hk; omega
      refine Z_new (fs := [.int 0, .int 0, .int 0]) C hU (ci := 3) rfl (fun _ h => List.mem_cons_of_mem _ (List.mem_append_left _ (List.mem_append_left _ (List.mem_append_left _ (List.mem_append_left _ (List.mem_append_left _ (List.mem_append_right _ h))))))) tyX3_ok (List.mem_of_getElem? (i := 4) rfl) (List.mem_of_getElem? (i := 5) rfl) (List.mem_of_getElem? (i := 6) rfl) dfX3 (Nat.le_of_ble_eq_true rfl) (Nat.le_of_ble_eq_true rfl) dX11_made_51 (fun q hq => ?_)
      refine Z_dup C dX11_made_54 rfl ?_
      refine Z_iload_n C dX11_made_55 0 rfl ?_
      refine Z_iload_n C dX11_made_56 1 rfl ?_
      refine Z_iload_n C dX11_made_57 2 rfl ?_
      refine Z_ci (rc0 := rmr 2 0 0) (Qk := KB 3 k n v (rnew ω0 q (.inr (3, [.int 0, .int 0, .int 0]))) q) (b := q) (As := [.int k, .int n, .int v]) C ki_X11_made_X3_init_94 rfl (Nat.le_of_ble_eq_true rfl) dX11_made_58 ⟨Nat.le_of_ble_eq_true rfl, Nat.le_of_ble_eq_true rfl⟩ (k_X3_init (List.mem_append_right _ (List.mem_singleton.mpr rfl)) (by decide) (va_up_self _ _ _)) (fun ω1 h1 => ?_)
      refine Z_aret C (Or.inl ⟨_, rfl⟩) dX11_made_61 ?_
      exact GB_mk hq h1 (kci_2 hk)
    · obtain rfl : (61 : Int) = off := Option.some.inj ho
      refine ⟨?_, by decide⟩
      show PR M 62 _ _ _ _
      have hk : k.toInt = 3 := by simp at hk; omega
      refine Z_new (fs := [.int 0, .int 0, .int 0]) C hU (ci := 0) rfl (fun _ h => List.mem_cons_of_mem _ (List.mem_append_left _ (List.mem_append_left _ (List.mem_append_left _ (List.mem_append_left _ (List.mem_append_right _ h)))))) tyX0_ok (List.mem_of_getElem? (i := 7) rfl) (List.mem_of_getElem? (i := 8) rfl) (List.mem_of_getElem? (i := 9) rfl) dfX0 (Nat.le_of_ble_eq_true rfl) (Nat.le_of_ble_eq_true rfl) dX11_made_62 (fun q hq => ?_)
      refine Z_dup C dX11_made_65 rfl ?_
      refine Z_iload_n C dX11_made_66 0 rfl ?_
      refine Z_iload_n C dX11_made_67 1 rfl ?_
      refine Z_iload_n C dX11_made_68 2 rfl ?_
      refine Z_ci (rc0 := rmr 2 0 0) (Qk := KB 0 k n v (rnew ω0 q (.inr (0, [.int 0, .int 0, .int 0]))) q) (b := q) (As := [.int k, .int n, .int v]) C ki_X11_made_X0_init_97 rfl (Nat.le_of_ble_eq_true rfl) dX11_made_69 ⟨Nat.le_of_ble_eq_true rfl, Nat.le_of_ble_eq_true rfl⟩ (k_X0_init (List.mem_append_right _ (List.mem_singleton.mpr rfl)) (by decide) (va_up_self _ _ _)) (fun ω1 h1 => ?_)
      refine Z_aret C (Or.inl ⟨_, rfl⟩) dX11_made_72 ?_
      exact GB_mk hq h1 (kci_3 hk)
    · obtain rfl : (72 : Int) = off := Option.some.inj ho
      refine ⟨?_, by decide⟩
      show PR M 73 _ _ _ _
      have hk : k.toInt = 4 := by simp at hk; omega
      refine Z_new (fs := [.int 0, .int 0, .int 0]) C hU (ci := 6) rfl (fun _ h => List.mem_cons_of_mem _ (List.mem_append_left _ (List.mem_append_left _ (List.mem_append_left _ (List.mem_append_right _ h))))) tyX6_ok (List.mem_of_getElem? (i := 10) rfl) (List.mem_of_getElem? (i := 11) rfl) (List.mem_of_getElem? (i := 12) rfl) dfX6 (Nat.le_of_ble_eq_true rfl) (Nat.le_of_ble_eq_true rfl) dX11_made_73 (fun q hq => ?_)
      refine Z_dup C dX11_made_76 rfl ?_
      refine Z_iload_n C dX11_made_77 0 rfl ?_
      refine Z_iload_n C dX11_made_78 1 rfl ?_
      refine Z_iload_n C dX11_made_79 2 rfl ?_
      refine Z_ci (rc0 := rmr 3 0 0) (Qk := KB 6 k n v (rnew ω0 q (.inr (6, [.int 0, .int 0, .int 0]))) q) (b := q) (As := [.int k, .int n, .int v]) C ki_X11_made_X6_init_100 rfl (Nat.le_of_ble_eq_true rfl) dX11_made_80 ⟨Nat.le_of_ble_eq_true rfl, Nat.le_of_ble_eq_true rfl⟩ (k_X6_init (List.mem_append_right _ (List.mem_singleton.mpr rfl)) (by decide) (va_up_self _ _ _)) (fun ω1 h1 => ?_)
      refine Z_aret C (Or.inl ⟨_, rfl⟩) dX11_made_83 ?_
      exact GB_mk hq h1 (kci_4 hk)
    · obtain rfl : (83 : Int) = off := Option.some.inj ho
      refine ⟨?_, by decide⟩
      show PR M 84 _ _ _ _
      have hk : k.toInt = 5 := by simp at hk; omega
      refine Z_new (fs := [.int 0, .int 0, .int 0]) C hU (ci := 7) rfl (fun _ h => List.mem_cons_of_mem _ (List.mem_append_left _ (List.mem_append_left _ (List.mem_append_right _ h)))) tyX7_ok (List.mem_of_getElem? (i := 13) rfl) (List.mem_of_getElem? (i := 14) rfl) (List.mem_of_getElem? (i := 15) rfl) dfX7 (Nat.le_of_ble_eq_true rfl) (Nat.le_of_ble_eq_true rfl) dX11_made_84 (fun q hq => ?_)
      refine Z_dup C dX11_made_87 rfl ?_
      refine Z_iload_n C dX11_made_88 0 rfl ?_
      refine Z_iload_n C dX11_made_89 1 rfl ?_
      refine Z_iload_n C dX11_made_90 2 rfl ?_
      refine Z_ci (rc0 := rmr 3 0 0) (Qk := KB 7 k n v (rnew ω0 q (.inr (7, [.int 0, .int 0, .int 0]))) q) (b := q) (As := [.int k, .int n, .int v]) C ki_X11_made_X7_init_103 rfl (Nat.le_of_ble_eq_true rfl) dX11_made_91 ⟨Nat.le_of_ble_eq_true rfl, Nat.le_of_ble_eq_true rfl⟩ (k_X7_init (List.mem_append_right _ (List.mem_singleton.mpr rfl)) (by decide) (va_up_self _ _ _)) (fun ω1 h1 => ?_)
      refine Z_aret C (Or.inl ⟨_, rfl⟩) dX11_made_94 ?_
      exact GB_mk hq h1 (kci_5 hk)
    · obtain rfl : (94 : Int) = off := Option.some.inj ho
      refine ⟨?_, by decide⟩
      show PR M 95 _ _ _ _
      have hk : k.toInt = 6 := by simp at hk; omega
      refine Z_new (fs := [.int 0, .int 0, .int 0]) C hU (ci := 10) rfl (fun _ h => List.mem_cons_of_mem _ (List.mem_append_left _ (List.mem_append_right _ h))) tyX10_ok (List.mem_of_getElem? (i := 16) rfl) (List.mem_of_getElem? (i := 17) rfl) (List.mem_of_getElem? (i := 18) rfl) dfX10 (Nat.le_of_ble_eq_true rfl) (Nat.le_of_ble_eq_true rfl) dX11_made_95 (fun q hq => ?_)
      refine Z_dup C dX11_made_98 rfl ?_
      refine Z_iload_n C dX11_made_99 0 rfl ?_
      refine Z_iload_n C dX11_made_100 1 rfl ?_
      refine Z_iload_n C dX11_made_101 2 rfl ?_
      refine Z_ci (rc0 := rmr 3 0 0) (Qk := KB 10 k n v (rnew ω0 q (.inr (10, [.int 0, .int 0, .int 0]))) q) (b := q) (As := [.int k, .int n, .int v]) C ki_X11_made_X10_init_106 rfl (Nat.le_of_ble_eq_true rfl) dX11_made_102 ⟨Nat.le_of_ble_eq_true rfl, Nat.le_of_ble_eq_true rfl⟩ (k_X10_init (List.mem_append_right _ (List.mem_singleton.mpr rfl)) (by decide) (va_up_self _ _ _)) (fun ω1 h1 => ?_)
      refine Z_aret C (Or.inl ⟨_, rfl⟩) dX11_made_105 ?_
      exact GB_mk hq h1 (kci_6 hk)
    · exact absurd (Array.getElem?_eq_some_iff.mp ho).1 (Nat.not_lt.mpr (by show 6 ≤ _; omega))
