theorem pf_X4_init_7_0 : PF RX4 wsX4_init 7 0 0 "NineMowers$Mower" .int := by
  show _ ∧ _ ∧ _ ∧ _ ∧ _ ∧ _ ∧ _ ∧ _ ∧ _
  exact ⟨by decide +kernel, fun _ h => List.mem_cons_of_mem _ (List.mem_append_left _ (List.mem_append_left _ (List.mem_append_left _ (List.mem_append_left _ (List.mem_append_left _ (List.mem_append_left _ (List.mem_append_right _ h))))))), List.mem_of_getElem? (i := 4) rfl, rfl, rfl, rfl, by decide +kernel, ⟨tyX0, tyX0_ok⟩, nmX0⟩
theorem pf_X4_init_13_0 : PF RX4 wsX4_init 13 0 1 "NineMowers$Mower" .int := by
  show _ ∧ _ ∧ _ ∧ _ ∧ _ ∧ _ ∧ _ ∧ _ ∧ _
  exact ⟨by decide +kernel, fun _ h => List.mem_cons_of_mem _ (List.mem_append_left _ (List.mem_append_left _ (List.mem_append_left _ (List.mem_append_left _ (List.mem_append_left _ (List.mem_append_left _ (List.mem_append_right _ h))))))), List.mem_of_getElem? (i := 5) rfl, rfl, rfl, rfl, by decide +kernel, ⟨tyX0, tyX0_ok⟩, nmX0⟩
theorem pf_X4_init_16_0 : PF RX4 wsX4_init 16 0 2 "NineMowers$Mower" .int := by
  show _ ∧ _ ∧ _ ∧ _ ∧ _ ∧ _ ∧ _ ∧ _ ∧ _
  exact ⟨by decide +kernel, fun _ h => List.mem_cons_of_mem _ (List.mem_append_left _ (List.mem_append_left _ (List.mem_append_left _ (List.mem_append_left _ (List.mem_append_left _ (List.mem_append_left _ (List.mem_append_right _ h))))))), List.mem_of_getElem? (i := 6) rfl, rfl, rfl, rfl, by decide +kernel, ⟨tyX0, tyX0_ok⟩, nmX0⟩
theorem pf_X4_init_7_3 : PF RX4 wsX4_init 7 3 0 "NineMowers$Mower" .int := by
  show _ ∧ _ ∧ _ ∧ _ ∧ _ ∧ _ ∧ _ ∧ _ ∧ _
  exact ⟨by decide +kernel, fun _ h => List.mem_cons_of_mem _ (List.mem_append_left _ (List.mem_append_left _ (List.mem_append_left _ (List.mem_append_left _ (List.mem_append_left _ (List.mem_append_right _ h)))))), List.mem_of_getElem? (i := 4) rfl, rfl, rfl, rfl, by decide +kernel, ⟨tyX3, tyX3_ok⟩, nmX3⟩
theorem pf_X4_init_13_3 : PF RX4 wsX4_init 13 3 1 "NineMowers$Mower" .int := by
  show _ ∧ _ ∧ _ ∧ _ ∧ _ ∧ _ ∧ _ ∧ _ ∧ _
  exact ⟨by decide +kernel, fun _ h => List.mem_cons_of_mem _ (List.mem_append_left _ (List.mem_append_left _ (List.mem_append_left _ (List.mem_append_left _ (List.mem_append_left _ (List.mem_append_right _ h)))))), List.mem_of_getElem? (i := 5) rfl, rfl, rfl, rfl, by decide +kernel, ⟨tyX3, tyX3_ok⟩, nmX3⟩
theorem pf_X4_init_16_3 : PF RX4 wsX4_init 16 3 2 "NineMowers$Mower" .int := by
  show _ ∧ _ ∧ _ ∧ _ ∧ _ ∧ _ ∧ _ ∧ _ ∧ _
  exact ⟨by decide +kernel, fun _ h => List.mem_cons_of_mem _ (List.mem_append_left _ (List.mem_append_left _ (List.mem_append_left _ (List.mem_append_left _ (List.mem_append_left _ (List.mem_append_right _ h)))))), List.mem_of_getElem? (i := 6) rfl, rfl, rfl, rfl, by decide +kernel, ⟨tyX3, tyX3_ok⟩, nmX3⟩
theorem pf_X4_init_7_4 : PF RX4 wsX4_init 7 4 0 "NineMowers$Mower" .int := by
  show _ ∧ _ ∧ _ ∧ _ ∧ _ ∧ _ ∧ _ ∧ _ ∧ _
  exact ⟨by decide +kernel, fun _ h => List.mem_cons_of_mem _ (List.mem_append_left _ (List.mem_append_left _ (List.mem_append_left _ (List.mem_append_left _ (List.mem_append_right _ h))))), List.mem_of_getElem? (i := 4) rfl, rfl, rfl, rfl, by decide +kernel, ⟨tyX4, tyX4_ok⟩, nmX4⟩
theorem pf_X4_init_13_4 : PF RX4 wsX4_init 13 4 1 "NineMowers$Mower" .int := by
  show _ ∧ _ ∧ _ ∧ _ ∧ _ ∧ _ ∧ _ ∧ _ ∧ _
  exact ⟨by decide +kernel, fun _ h => List.mem_cons_of_mem _ (List.mem_append_left _ (List.mem_append_left _ (List.mem_append_left _ (List.mem_append_left _ (List.mem_append_right _ h))))), List.mem_of_getElem? (i := 5) rfl, rfl, rfl, rfl, by decide +kernel, ⟨tyX4, tyX4_ok⟩, nmX4⟩
theorem pf_X4_init_16_4 : PF RX4 wsX4_init 16 4 2 "NineMowers$Mower" .int := by
  show _ ∧ _ ∧ _ ∧ _ ∧ _ ∧ _ ∧ _ ∧ _ ∧ _
  exact ⟨by decide +kernel, fun _ h => List.mem_cons_of_mem _ (List.mem_append_left _ (List.mem_append_left _ (List.mem_append_left _ (List.mem_append_left _ (List.mem_append_right _ h))))), List.mem_of_getElem? (i := 6) rfl, rfl, rfl, rfl, by decide +kernel, ⟨tyX4, tyX4_ok⟩, nmX4⟩
theorem pf_X4_init_7_6 : PF RX4 wsX4_init 7 6 0 "NineMowers$Mower" .int := by
  show _ ∧ _ ∧ _ ∧ _ ∧ _ ∧ _ ∧ _ ∧ _ ∧ _
  exact ⟨by decide +kernel, fun _ h => List.mem_cons_of_mem _ (List.mem_append_left _ (List.mem_append_left _ (List.mem_append_left _ (List.mem_append_right _ h)))), List.mem_of_getElem? (i := 4) rfl, rfl, rfl, rfl, by decide +kernel, ⟨tyX6, tyX6_ok⟩, nmX6⟩
theorem pf_X4_init_13_6 : PF RX4 wsX4_init 13 6 1 "NineMowers$Mower" .int := by
  show _ ∧ _ ∧ _ ∧ _ ∧ _ ∧ _ ∧ _ ∧ _ ∧ _
  exact ⟨by decide +kernel, fun _ h => List.mem_cons_of_mem _ (List.mem_append_left _ (List.mem_append_left _ (List.mem_append_left _ (List.mem_append_right _ h)))), List.mem_of_getElem? (i := 5) rfl, rfl, rfl, rfl, by decide +kernel, ⟨tyX6, tyX6_ok⟩, nmX6⟩
theorem pf_X4_init_16_6 : PF RX4 wsX4_init 16 6 2 "NineMowers$Mower" .int := by
  show _ ∧ _ ∧ _ ∧ _ ∧ _ ∧ _ ∧ _ ∧ _ ∧ _
  exact ⟨by decide +kernel, fun _ h => List.mem_cons_of_mem _ (List.mem_append_left _ (List.mem_append_left _ (List.mem_append_left _ (List.mem_append_right _ h)))), List.mem_of_getElem? (i := 6) rfl, rfl, rfl, rfl, by decide +kernel, ⟨tyX6, tyX6_ok⟩, nmX6⟩
theorem pf_X4_init_7_7 : PF RX4 wsX4_init 7 7 0 "NineMowers$Mower" .int := by
  show _ ∧ _ ∧ _ ∧ _ ∧ _ ∧ _ ∧ _ ∧ _ ∧ _
  exact ⟨by decide +kernel, fun _ h => List.mem_cons_of_mem _ (List.mem_append_left _ (List.mem_append_left _ (List.mem_append_right _ h))), List.mem_of_getElem? (i := 4) rfl, rfl, rfl, rfl, by decide +kernel, ⟨tyX7, tyX7_ok⟩, nmX7⟩
theorem pf_X4_init_13_7 : PF RX4 wsX4_init 13 7 1 "NineMowers$Mower" .int := by
  show _ ∧ _ ∧ _ ∧ _ ∧ _ ∧ _ ∧ _ ∧ _ ∧ _
  exact ⟨by decide +kernel, fun _ h => List.mem_cons_of_mem _ (List.mem_append_left _ (List.mem_append_left _ (List.mem_append_right _ h))), List.mem_of_getElem? (i := 5) rfl, rfl, rfl, rfl, by decide +kernel, ⟨tyX7, tyX7_ok⟩, nmX7⟩
theorem pf_X4_init_16_7 : PF RX4 wsX4_init 16 7 2 "NineMowers$Mower" .int := by
  show _ ∧ _ ∧ _ ∧ _ ∧ _ ∧ _ ∧ _ ∧ _ ∧ _
  exact ⟨by decide +kernel, fun _ h => List.mem_cons_of_mem _ (List.mem_append_left _ (List.mem_append_left _ (List.mem_append_right _ h))), List.mem_of_getElem? (i := 6) rfl, rfl, rfl, rfl, by decide +kernel, ⟨tyX7, tyX7_ok⟩, nmX7⟩
theorem pf_X4_init_7_8 : PF RX4 wsX4_init 7 8 0 "NineMowers$Mower" .int := by
  show _ ∧ _ ∧ _ ∧ _ ∧ _ ∧ _ ∧ _ ∧ _ ∧ _
  exact ⟨by decide +kernel, fun _ h => List.mem_cons_of_mem _ (List.mem_append_left _ (List.mem_append_right _ h)), List.mem_of_getElem? (i := 4) rfl, rfl, rfl, rfl, by decide +kernel, ⟨tyX8, tyX8_ok⟩, nmX8⟩
theorem pf_X4_init_13_8 : PF RX4 wsX4_init 13 8 1 "NineMowers$Mower" .int := by
  show _ ∧ _ ∧ _ ∧ _ ∧ _ ∧ _ ∧ _ ∧ _ ∧ _
  exact ⟨by decide +kernel, fun _ h => List.mem_cons_of_mem _ (List.mem_append_left _ (List.mem_append_right _ h)), List.mem_of_getElem? (i := 5) rfl, rfl, rfl, rfl, by decide +kernel, ⟨tyX8, tyX8_ok⟩, nmX8⟩
theorem pf_X4_init_16_8 : PF RX4 wsX4_init 16 8 2 "NineMowers$Mower" .int := by
  show _ ∧ _ ∧ _ ∧ _ ∧ _ ∧ _ ∧ _ ∧ _ ∧ _
  exact ⟨by decide +kernel, fun _ h => List.mem_cons_of_mem _ (List.mem_append_left _ (List.mem_append_right _ h)), List.mem_of_getElem? (i := 6) rfl, rfl, rfl, rfl, by decide +kernel, ⟨tyX8, tyX8_ok⟩, nmX8⟩
theorem pf_X4_init_7_10 : PF RX4 wsX4_init 7 10 0 "NineMowers$Mower" .int := by
  show _ ∧ _ ∧ _ ∧ _ ∧ _ ∧ _ ∧ _ ∧ _ ∧ _
  exact ⟨by decide +kernel, fun _ h => List.mem_cons_of_mem _ (List.mem_append_right _ h), List.mem_of_getElem? (i := 4) rfl, rfl, rfl, rfl, by decide +kernel, ⟨tyX10, tyX10_ok⟩, nmX10⟩
theorem pf_X4_init_13_10 : PF RX4 wsX4_init 13 10 1 "NineMowers$Mower" .int := by
  show _ ∧ _ ∧ _ ∧ _ ∧ _ ∧ _ ∧ _ ∧ _ ∧ _
  exact ⟨by decide +kernel, fun _ h => List.mem_cons_of_mem _ (List.mem_append_right _ h), List.mem_of_getElem? (i := 5) rfl, rfl, rfl, rfl, by decide +kernel, ⟨tyX10, tyX10_ok⟩, nmX10⟩
theorem pf_X4_init_16_10 : PF RX4 wsX4_init 16 10 2 "NineMowers$Mower" .int := by
  show _ ∧ _ ∧ _ ∧ _ ∧ _ ∧ _ ∧ _ ∧ _ ∧ _
  exact ⟨by decide +kernel, fun _ h => List.mem_cons_of_mem _ (List.mem_append_right _ h), List.mem_of_getElem? (i := 6) rfl, rfl, rfl, rfl, by decide +kernel, ⟨tyX10, tyX10_ok⟩, nmX10⟩
theorem pf_X4_init_7 {ci : Nat} (h : isMc ci) : PF RX4 wsX4_init 7 ci 0 "NineMowers$Mower" .int := by
  rcases h with rfl | rfl | rfl | rfl | rfl | rfl | rfl
  · exact pf_X4_init_7_0
  · exact pf_X4_init_7_3
  · exact pf_X4_init_7_4
  · exact pf_X4_init_7_6
  · exact pf_X4_init_7_7
  · exact pf_X4_init_7_8
  · exact pf_X4_init_7_10
theorem pf_X4_init_13 {ci : Nat} (h : isMc ci) : PF RX4 wsX4_init 13 ci 1 "NineMowers$Mower" .int := by
  rcases h with rfl | rfl | rfl | rfl | rfl | rfl | rfl
  · exact pf_X4_init_13_0
  · exact pf_X4_init_13_3
  · exact pf_X4_init_13_4
  · exact pf_X4_init_13_6
  · exact pf_X4_init_13_7
  · exact pf_X4_init_13_8
  · exact pf_X4_init_13_10
theorem pf_X4_init_16 {ci : Nat} (h : isMc ci) : PF RX4 wsX4_init 16 ci 2 "NineMowers$Mower" .int := by
  rcases h with rfl | rfl | rfl | rfl | rfl | rfl | rfl
  · exact pf_X4_init_16_0
  · exact pf_X4_init_16_3
  · exact pf_X4_init_16_4
  · exact pf_X4_init_16_6
  · exact pf_X4_init_16_7
  · exact pf_X4_init_16_8
  · exact pf_X4_init_16_10
/-- a mower is set up -/
noncomputable def KB (ci : Nat) (k n v : Int32) (ω0 : RWd) (h : Nat) (ω : RWd) : Prop := BT ω0 ω h [] ∧ ω.2 h = .inr (ci, [.int k, .int n, .int v])
set_option maxRecDepth 100000 in
set_option maxHeartbeats 8000000 in
theorem k_X4_init {l : Launch} {V : Vx} {h ci : Nat} {ω0 : RWd} {k n v : Int32} (hm : h ∈ ω0.1) (hci : isMc ci) (c0 : ω0.2 h = .inr (ci, [.int 0, .int 0, .int 0])) : Kr l V yX4_init wsX4_init (rmr 1 0 0) 0 0 [.ref h, .int k, .int n, .int v] ω0 (QRV V (KB ci k n v ω0 h)) := by
  refine Kr_of (by decide +kernel) rfl rfl (Nat.le_of_ble_eq_true rfl) (fun M hl hV hN C hI => ?_)
  subst hl
  subst hV
  replace hI := hI rfl
  have b0 := BT_0 hm
  show PR M 0 [(0, .ref h), (1, .int k), (2, .int n), (3, .int v)] [] ω0 (0, 0)
  refine Z_aload_n C dX4_init_0 0 rfl ?_
  refine Z_objInit C (List.mem_of_getElem? (i := 1) rfl) (List.mem_of_getElem? (i := 2) rfl) (List.mem_of_getElem? (i := 3) rfl) (Nat.le_of_ble_eq_true rfl) (Nat.le_of_ble_eq_true rfl) dX4_init_1 ?_
  refine Z_aload_n C dX4_init_4 0 rfl ?_
  refine Z_iload_n C dX4_init_5 1 rfl ?_
  refine Y_putF C hI (pf_X4_init_7 hci) b0 c0 rfl rfl (Nat.le_of_ble_eq_true rfl) dX4_init_6 (fun ω1 b1 c1 => ?_)
  have c1 : ω1.2 h = .inr (ci, [.int k, .int 0, .int 0]) := c1
  refine Z_aload_n C dX4_init_9 0 rfl ?_
  refine Z_iload_n C dX4_init_10 2 rfl ?_
  refine Y_putF C hI (pf_X4_init_13 hci) b1 c1 rfl rfl (Nat.le_of_ble_eq_true rfl) dX4_init_11 (fun ω2 b2 c2 => ?_)
  have c2 : ω2.2 h = .inr (ci, [.int k, .int n, .int 0]) := c2
  refine Z_aload_n C dX4_init_14 0 rfl ?_
  refine Z_iload_n C dX4_init_15 3 rfl ?_
  refine Y_putF C hI (pf_X4_init_16 hci) b2 c2 rfl rfl (Nat.le_of_ble_eq_true rfl) dX4_init_16 (fun ω3 b3 c3 => ?_)
  have c3 : ω3.2 h = .inr (ci, [.int k, .int n, .int v]) := c3
  exact Z_vret C dX4_init_19 ⟨b3, c3⟩
theorem ki_X8_init_X4_init_1 {c s c2 s2 : Nat} : KI RX8 wsX8_init (rmr 2 c s) 1 yX4_init wsX4_init (rmr 1 c2 s2) 3 := ⟨_, _, _, gX8_init_X4_init, rfl, (List.mem_of_getElem? (i := 3) rfl), (List.mem_of_getElem? (i := 1) rfl), (List.mem_of_getElem? (i := 2) rfl), rfl, by decide +kernel, Nat.le_of_ble_eq_true rfl, Nat.le_of_ble_eq_true rfl⟩
set_option maxRecDepth 100000 in
set_option maxHeartbeats 8000000 in
theorem k_X8_init {l : Launch} {V : Vx} {h ci : Nat} {ω0 : RWd} {k n v : Int32} (hm : h ∈ ω0.1) (hci : isMc ci) (c0 : ω0.2 h = .inr (ci, [.int 0, .int 0, .int 0])) : Kr l V yX8_init wsX8_init (rmr 2 0 0) 0 0 [.ref h, .int k, .int n, .int v] ω0 (QRV V (KB ci k n v ω0 h)) := by
  refine Kr_of (by decide +kernel) rfl rfl (Nat.le_of_ble_eq_true rfl) (fun M hl hV hN C hI => ?_)
  subst hl
  subst hV
  replace hI := hI rfl
  have b0 := BT_0 hm
  show PR M 0 [(0, .ref h), (1, .int k), (2, .int n), (3, .int v)] [] ω0 (0, 0)
  refine Z_aload_n C dX8_init_0 0 rfl ?_
  refine Z_iload_n C dX8_init_1 1 rfl ?_
  refine Z_iload_n C dX8_init_2 2 rfl ?_
  refine Z_iload_n C dX8_init_3 3 rfl ?_
  refine Z_ci (rc0 := rmr 1 0 0) (Qk := KB ci k n v ω0 h) (b := h) (As := [.int k, .int n, .int v]) C ki_X8_init_X4_init_1 rfl (Nat.le_of_ble_eq_true rfl) dX8_init_4 ⟨Nat.le_refl _, Nat.le_refl _⟩ (k_X4_init hm hci c0) (fun ω1 h1 => ?_)
  exact Z_vret C dX8_init_7 h1
theorem ki_X3_init_X4_init_1 {c s c2 s2 : Nat} : KI RX3 wsX3_init (rmr 2 c s) 1 yX4_init wsX4_init (rmr 1 c2 s2) 3 := ⟨_, _, _, gX3_init_X4_init, rfl, (List.mem_of_getElem? (i := 3) rfl), (List.mem_of_getElem? (i := 1) rfl), (List.mem_of_getElem? (i := 2) rfl), rfl, by decide +kernel, Nat.le_of_ble_eq_true rfl, Nat.le_of_ble_eq_true rfl⟩
set_option maxRecDepth 100000 in
set_option maxHeartbeats 8000000 in
theorem k_X3_init {l : Launch} {V : Vx} {h ci : Nat} {ω0 : RWd} {k n v : Int32} (hm : h ∈ ω0.1) (hci : isMc ci) (c0 : ω0.2 h = .inr (ci, [.int 0, .int 0, .int 0])) : Kr l V yX3_init wsX3_init (rmr 2 0 0) 0 0 [.ref h, .int k, .int n, .int v] ω0 (QRV V (KB ci k n v ω0 h)) := by
  refine Kr_of (by decide +kernel) rfl rfl (Nat.le_of_ble_eq_true rfl) (fun M hl hV hN C hI => ?_)
  subst hl
  subst hV
  replace hI := hI rfl
  have b0 := BT_0 hm
  show PR M 0 [(0, .ref h), (1, .int k), (2, .int n), (3, .int v)] [] ω0 (0, 0)
  refine Z_aload_n C dX3_init_0 0 rfl ?_
  refine Z_iload_n C dX3_init_1 1 rfl ?_
  refine Z_iload_n C dX3_init_2 2 rfl ?_
  refine Z_iload_n C dX3_init_3 3 rfl ?_
  refine Z_ci (rc0 := rmr 1 0 0) (Qk := KB ci k n v ω0 h) (b := h) (As := [.int k, .int n, .int v]) C ki_X3_init_X4_init_1 rfl (Nat.le_of_ble_eq_true rfl) dX3_init_4 ⟨Nat.le_refl _, Nat.le_refl _⟩ (k_X4_init hm hci c0) (fun ω1 h1 => ?_)
  exact Z_vret C dX3_init_7 h1
theorem ki_X0_init_X4_init_1 {c s c2 s2 : Nat} : KI RX0 wsX0_init (rmr 2 c s) 1 yX4_init wsX4_init (rmr 1 c2 s2) 3 := ⟨_, _, _, gX0_init_X4_init, rfl, (List.mem_of_getElem? (i := 3) rfl), (List.mem_of_getElem? (i := 1) rfl), (List.mem_of_getElem? (i := 2) rfl), rfl, by decide +kernel, Nat.le_of_ble_eq_true rfl, Nat.le_of_ble_eq_true rfl⟩
set_option maxRecDepth 100000 in
set_option maxHeartbeats 8000000 in
theorem k_X0_init {l : Launch} {V : Vx} {h ci : Nat} {ω0 : RWd} {k n v : Int32} (hm : h ∈ ω0.1) (hci : isMc ci) (c0 : ω0.2 h = .inr (ci, [.int 0, .int 0, .int 0])) : Kr l V yX0_init wsX0_init (rmr 2 0 0) 0 0 [.ref h, .int k, .int n, .int v] ω0 (QRV V (KB ci k n v ω0 h)) := by
  refine Kr_of (by decide +kernel) rfl rfl (Nat.le_of_ble_eq_true rfl) (fun M hl hV hN C hI => ?_)
  subst hl
  subst hV
  replace hI := hI rfl
  have b0 := BT_0 hm
  show PR M 0 [(0, .ref h), (1, .int k), (2, .int n), (3, .int v)] [] ω0 (0, 0)
  refine Z_aload_n C dX0_init_0 0 rfl ?_
  refine Z_iload_n C dX0_init_1 1 rfl ?_
  refine Z_iload_n C dX0_init_2 2 rfl ?_
  refine Z_iload_n C dX0_init_3 3 rfl ?_
  refine Z_ci (rc0 := rmr 1 0 0) (Qk := KB ci k n v ω0 h) (b := h) (As := [.int k, .int n, .int v]) C ki_X0_init_X4_init_1 rfl (Nat.le_of_ble_eq_true rfl) dX0_init_4 ⟨Nat.le_refl _, Nat.le_refl _⟩ (k_X4_init hm hci c0) (fun ω1 h1 => ?_)
  exact Z_vret C dX0_init_7 h1
theorem ki_X6_init_X8_init_1 {c s c2 s2 : Nat} : KI RX6 wsX6_init (rmr 3 c s) 1 yX8_init wsX8_init (rmr 2 c2 s2) 3 := ⟨_, _, _, gX6_init_X8_init, rfl, (List.mem_of_getElem? (i := 3) rfl), (List.mem_of_getElem? (i := 1) rfl), (List.mem_of_getElem? (i := 2) rfl), rfl, by decide +kernel, Nat.le_of_ble_eq_true rfl, Nat.le_of_ble_eq_true rfl⟩
set_option maxRecDepth 100000 in
set_option maxHeartbeats 8000000 in
theorem k_X6_init {l : Launch} {V : Vx} {h ci : Nat} {ω0 : RWd} {k n v : Int32} (hm : h ∈ ω0.1) (hci : isMc ci) (c0 : ω0.2 h = .inr (ci, [.int 0, .int 0, .int 0])) : Kr l V yX6_init wsX6_init (rmr 3 0 0) 0 0 [.ref h, .int k, .int n, .int v] ω0 (QRV V (KB ci k n v ω0 h)) := by
  refine Kr_of (by decide +kernel) rfl rfl (Nat.le_of_ble_eq_true rfl) (fun M hl hV hN C hI => ?_)
  subst hl
  subst hV
  replace hI := hI rfl
  have b0 := BT_0 hm
  show PR M 0 [(0, .ref h), (1, .int k), (2, .int n), (3, .int v)] [] ω0 (0, 0)
  refine Z_aload_n C dX6_init_0 0 rfl ?_
  refine Z_iload_n C dX6_init_1 1 rfl ?_
  refine Z_iload_n C dX6_init_2 2 rfl ?_
  refine Z_iload_n C dX6_init_3 3 rfl ?_
  refine Z_ci (rc0 := rmr 2 0 0) (Qk := KB ci k n v ω0 h) (b := h) (As := [.int k, .int n, .int v]) C ki_X6_init_X8_init_1 rfl (Nat.le_of_ble_eq_true rfl) dX6_init_4 ⟨Nat.le_refl _, Nat.le_refl _⟩ (k_X8_init hm hci c0) (fun ω1 h1 => ?_)
  exact Z_vret C dX6_init_7 h1
theorem ki_X7_init_X3_init_1 {c s c2 s2 : Nat} : KI RX7 wsX7_init (rmr 3 c s) 1 yX3_init wsX3_init (rmr 2 c2 s2) 3 := ⟨_, _, _, gX7_init_X3_init, rfl, (List.mem_of_getElem? (i := 3) rfl), (List.mem_of_getElem? (i := 1) rfl), (List.mem_of_getElem? (i := 2) rfl), rfl, by decide +kernel, Nat.le_of_ble_eq_true rfl, Nat.le_of_ble_eq_true rfl⟩
set_option maxRecDepth 100000 in
set_option maxHeartbeats 8000000 in
theorem k_X7_init {l : Launch} {V : Vx} {h ci : Nat} {ω0 : RWd} {k n v : Int32} (hm : h ∈ ω0.1) (hci : isMc ci) (c0 : ω0.2 h = .inr (ci, [.int 0, .int 0, .int 0])) : Kr l V yX7_init wsX7_init (rmr 3 0 0) 0 0 [.ref h, .int k, .int n, .int v] ω0 (QRV V (KB ci k n v ω0 h)) := by
  refine Kr_of (by decide +kernel) rfl rfl (Nat.le_of_ble_eq_true rfl) (fun M hl hV hN C hI => ?_)
  subst hl
  subst hV
  replace hI := hI rfl
  have b0 := BT_0 hm
  show PR M 0 [(0, .ref h), (1, .int k), (2, .int n), (3, .int v)] [] ω0 (0, 0)
  refine Z_aload_n C dX7_init_0 0 rfl ?_
  refine Z_iload_n C dX7_init_1 1 rfl ?_
  refine Z_iload_n C dX7_init_2 2 rfl ?_
  refine Z_iload_n C dX7_init_3 3 rfl ?_
  refine Z_ci (rc0 := rmr 2 0 0) (Qk := KB ci k n v ω0 h) (b := h) (As := [.int k, .int n, .int v]) C ki_X7_init_X3_init_1 rfl (Nat.le_of_ble_eq_true rfl) dX7_init_4 ⟨Nat.le_refl _, Nat.le_refl _⟩ (k_X3_init hm hci c0) (fun ω1 h1 => ?_)
  exact Z_vret C dX7_init_7 h1
theorem ki_X10_init_X0_init_1 {c s c2 s2 : Nat} : KI RX10 wsX10_init (rmr 3 c s) 1 yX0_init wsX0_init (rmr 2 c2 s2) 3 := ⟨_, _, _, gX10_init_X0_init, rfl, (List.mem_of_getElem? (i := 3) rfl), (List.mem_of_getElem? (i := 1) rfl), (List.mem_of_getElem? (i := 2) rfl), rfl, by decide +kernel, Nat.le_of_ble_eq_true rfl, Nat.le_of_ble_eq_true rfl⟩
set_option maxRecDepth 100000 in
set_option maxHeartbeats 8000000 in
theorem k_X10_init {l : Launch} {V : Vx} {h ci : Nat} {ω0 : RWd} {k n v : Int32} (hm : h ∈ ω0.1) (hci : isMc ci) (c0 : ω0.2 h = .inr (ci, [.int 0, .int 0, .int 0])) : Kr l V yX10_init wsX10_init (rmr 3 0 0) 0 0 [.ref h, .int k, .int n, .int v] ω0 (QRV V (KB ci k n v ω0 h)) := by
  refine Kr_of (by decide +kernel) rfl rfl (Nat.le_of_ble_eq_true rfl) (fun M hl hV hN C hI => ?_)
  subst hl
  subst hV
  replace hI := hI rfl
  have b0 := BT_0 hm
  show PR M 0 [(0, .ref h), (1, .int k), (2, .int n), (3, .int v)] [] ω0 (0, 0)
  refine Z_aload_n C dX10_init_0 0 rfl ?_
  refine Z_iload_n C dX10_init_1 1 rfl ?_
  refine Z_iload_n C dX10_init_2 2 rfl ?_
  refine Z_iload_n C dX10_init_3 3 rfl ?_
  refine Z_ci (rc0 := rmr 2 0 0) (Qk := KB ci k n v ω0 h) (b := h) (As := [.int k, .int n, .int v]) C ki_X10_init_X0_init_1 rfl (Nat.le_of_ble_eq_true rfl) dX10_init_4 ⟨Nat.le_refl _, Nat.le_refl _⟩ (k_X0_init hm hci c0) (fun ω1 h1 => ?_)
  exact Z_vret C dX10_init_7 h1
/-- a number's kind among the kinds of objects -/
noncomputable def kci (k : Int32) : Nat := if k.toInt = 1 then 8 else if k.toInt = 2 then 3 else if k.toInt = 3 then 0 else if k.toInt = 4 then 6 else if k.toInt = 5 then 7 else if k.toInt = 6 then 10 else 4
theorem kci_mc (k : Int32) : isMc (kci k) := by
  unfold kci
  repeat' split
  all_goals decide
theorem kci_0 {k : Int32} (h : k.toInt < 1 ∨ 6 < k.toInt) : kci k = 4 := by
  unfold kci
  rw [if_neg (by omega), if_neg (by omega), if_neg (by omega), if_neg (by omega), if_neg (by omega), if_neg (by omega)]
theorem kci_1 {k : Int32} (h : k.toInt = 1) : kci k = 8 := by
  unfold kci
  rw [if_pos h]
theorem kci_2 {k : Int32} (h : k.toInt = 2) : kci k = 3 := by
  unfold kci
  rw [if_neg (by omega), if_pos h]
theorem kci_3 {k : Int32} (h : k.toInt = 3) : kci k = 0 := by
  unfold kci
  rw [if_neg (by omega), if_neg (by omega), if_pos h]
theorem kci_4 {k : Int32} (h : k.toInt = 4) : kci k = 6 := by
  unfold kci
  rw [if_neg (by omega), if_neg (by omega), if_neg (by omega), if_pos h]
theorem kci_5 {k : Int32} (h : k.toInt = 5) : kci k = 7 := by
  unfold kci
  rw [if_neg (by omega), if_neg (by omega), if_neg (by omega), if_neg (by omega), if_pos h]
theorem kci_6 {k : Int32} (h : k.toInt = 6) : kci k = 10 := by
  unfold kci
  rw [if_neg (by omega), if_neg (by omega), if_neg (by omega), if_neg (by omega), if_neg (by omega), if_pos h]
/-- a mower is made: it is there, apart from all that was, which stays -/
noncomputable def GB (k n v : Int32) (ω0 : RWd) (q : Nat) (ω : RWd) : Prop := q ∉ ω0.1 ∧ q ∈ ω.1 ∧ (∀ a ∈ ω0.1, a ∈ ω.1 ∧ ω.2 a = ω0.2 a) ∧ ω.2 q = .inr (kci k, [.int k, .int n, .int v])
theorem GB_mk {ω0 ω : RWd} {q ci : Nat} {k n v : Int32} (hq : q ∉ ω0.1) (h : KB ci k n v (rnew ω0 q (.inr (ci, [.int 0, .int 0, .int 0]))) q ω) (hk : kci k = ci) : GB k n v ω0 q ω := by
  obtain ⟨⟨b1, b2, b3, b4⟩, c⟩ := h
  refine ⟨hq, (b2 q b1).1, fun a ha => ?_, by rw [hk]; exact c⟩
  have hne : a ≠ q := fun z => hq (z ▸ ha)
  have h2 := b2 a (List.mem_append_left _ ha)
  refine ⟨h2.1, (h2.2 hne).trans ?_⟩
  show va_up ω0.2 q _ a = _
  rw [va_up_ne _ _ hne]
theorem ki_X11_made_X4_init_109 {c s c2 s2 : Nat} : KI RX11 wsX11_made (rmr 4 c s) 109 yX4_init wsX4_init (rmr 1 c2 s2) 3 := ⟨_, _, _, gX11_made_X4_init, rfl, (List.mem_of_getElem? (i := 21) rfl), (List.mem_of_getElem? (i := 54) rfl), (List.mem_of_getElem? (i := 26) rfl), rfl, by decide +kernel, Nat.le_of_ble_eq_true rfl, Nat.le_of_ble_eq_true rfl⟩
theorem ki_X11_made_X8_init_89 {c s c2 s2 : Nat} : KI RX11 wsX11_made (rmr 4 c s) 89 yX8_init wsX8_init (rmr 2 c2 s2) 3 := ⟨_, _, _, gX11_made_X8_init, rfl, (List.mem_of_getElem? (i := 3) rfl), (List.mem_of_getElem? (i := 22) rfl), (List.mem_of_getElem? (i := 23) rfl), rfl, by decide +kernel, Nat.le_of_ble_eq_true rfl, Nat.le_of_ble_eq_true rfl⟩
theorem ki_X11_made_X3_init_94 {c s c2 s2 : Nat} : KI RX11 wsX11_made (rmr 4 c s) 94 yX3_init wsX3_init (rmr 2 c2 s2) 3 := ⟨_, _, _, gX11_made_X3_init, rfl, (List.mem_of_getElem? (i := 6) rfl), (List.mem_of_getElem? (i := 34) rfl), (List.mem_of_getElem? (i := 35) rfl), rfl, by decide +kernel, Nat.le_of_ble_eq_true rfl, Nat.le_of_ble_eq_true rfl⟩
theorem ki_X11_made_X0_init_97 {c s c2 s2 : Nat} : KI RX11 wsX11_made (rmr 4 c s) 97 yX0_init wsX0_init (rmr 2 c2 s2) 3 := ⟨_, _, _, gX11_made_X0_init, rfl, (List.mem_of_getElem? (i := 9) rfl), (List.mem_of_getElem? (i := 38) rfl), (List.mem_of_getElem? (i := 39) rfl), rfl, by decide +kernel, Nat.le_of_ble_eq_true rfl, Nat.le_of_ble_eq_true rfl⟩
theorem ki_X11_made_X6_init_100 {c s c2 s2 : Nat} : KI RX11 wsX11_made (rmr 4 c s) 100 yX6_init wsX6_init (rmr 3 c2 s2) 3 := ⟨_, _, _, gX11_made_X6_init, rfl, (List.mem_of_getElem? (i := 12) rfl), (List.mem_of_getElem? (i := 42) rfl), (List.mem_of_getElem? (i := 43) rfl), rfl, by decide +kernel, Nat.le_of_ble_eq_true rfl, Nat.le_of_ble_eq_true rfl⟩
theorem ki_X11_made_X7_init_103 {c s c2 s2 : Nat} : KI RX11 wsX11_made (rmr 4 c s) 103 yX7_init wsX7_init (rmr 3 c2 s2) 3 := ⟨_, _, _, gX11_made_X7_init, rfl, (List.mem_of_getElem? (i := 15) rfl), (List.mem_of_getElem? (i := 46) rfl), (List.mem_of_getElem? (i := 47) rfl), rfl, by decide +kernel, Nat.le_of_ble_eq_true rfl, Nat.le_of_ble_eq_true rfl⟩
theorem ki_X11_made_X10_init_106 {c s c2 s2 : Nat} : KI RX11 wsX11_made (rmr 4 c s) 106 yX10_init wsX10_init (rmr 3 c2 s2) 3 := ⟨_, _, _, gX11_made_X10_init, rfl, (List.mem_of_getElem? (i := 18) rfl), (List.mem_of_getElem? (i := 50) rfl), (List.mem_of_getElem? (i := 51) rfl), rfl, by decide +kernel, Nat.le_of_ble_eq_true rfl, Nat.le_of_ble_eq_true rfl⟩
set_option maxRecDepth 100000 in
set_option maxHeartbeats 8000000 in
theorem k_X11_made {l : Launch} {V : Vx} {ω0 : RWd} {k n v : Int32} (hU : UPV V) : Kr l V yX11_made wsX11_made (rmr 4 1 3) 1 3 [.int k, .int n, .int v] ω0 (QRR V (GB k n v ω0)) := by
  refine Kr_of (by decide +kernel) rfl rfl (Nat.le_of_ble_eq_true rfl) (fun M hl hV hN C _ => ?_)
  subst hl
  subst hV
  show PR M 0 [(0, .int k), (1, .int n), (2, .int v)] [] ω0 (0, 0)
  refine Z_iload_n C dX11_made_0 0 rfl ?_
  refine Z_tsw C dX11_made_1 106 (by decide +kernel) (fun hk => ?_) (by decide +kernel) (fun i off ho hk => ?_)
  · refine Z_new (fs := [.int 0, .int 0, .int 0]) C hU (ci := 4) rfl (fun _ h => List.mem_cons_of_mem _ (List.mem_append_right _ h)) tyX4_ok (List.mem_of_getElem? (i := 19) rfl) (List.mem_of_getElem? (i := 20) rfl) (List.mem_of_getElem? (i := 21) rfl) dfX4 (Nat.le_of_ble_eq_true rfl) (Nat.le_of_ble_eq_true rfl) dX11_made_106 (fun q hq => ?_)
    refine Z_dup C dX11_made_109 rfl ?_
    refine Z_iload_n C dX11_made_110 0 rfl ?_
    refine Z_iload_n C dX11_made_111 1 rfl ?_
    refine Z_iload_n C dX11_made_112 2 rfl ?_
    refine Z_ci (rc0 := rmr 1 0 0) (Qk := KB 4 k n v (rnew ω0 q (.inr (4, [.int 0, .int 0, .int 0]))) q) (b := q) (As := [.int k, .int n, .int v]) C ki_X11_made_X4_init_109 rfl (Nat.le_of_ble_eq_true rfl) dX11_made_113 ⟨Nat.le_of_ble_eq_true rfl, Nat.le_of_ble_eq_true rfl⟩ (k_X4_init (List.mem_append_right _ (List.mem_singleton.mpr rfl)) (by decide +kernel) (va_up_self _ _ _)) (fun ω1 h1 => ?_)
    refine Z_aret C (Or.inl ⟨_, rfl⟩) dX11_made_116 ?_
    exact GB_mk hq h1 (kci_0 hk)
  · rcases i with _ | _ | _ | _ | _ | _ | i
    · obtain rfl : (39 : Int) = off := Option.some.inj ho
      refine ⟨?_, by decide +kernel⟩
      show PR M 40 _ _ _ _
      have hk : k.toInt = 1 := by simp at hk; omega
      refine Z_new (fs := [.int 0, .int 0, .int 0]) C hU (ci := 8) rfl (fun _ h => List.mem_cons_of_mem _ (List.mem_append_left _ (List.mem_append_left _ (List.mem_append_left _ (List.mem_append_left _ (List.mem_append_left _ (List.mem_append_left _ (List.mem_append_right _ h)))))))) tyX8_ok (List.mem_of_getElem? (i := 1) rfl) (List.mem_of_getElem? (i := 2) rfl) (List.mem_of_getElem? (i := 3) rfl) dfX8 (Nat.le_of_ble_eq_true rfl) (Nat.le_of_ble_eq_true rfl) dX11_made_40 (fun q hq => ?_)
      refine Z_dup C dX11_made_43 rfl ?_
      refine Z_iload_n C dX11_made_44 0 rfl ?_
      refine Z_iload_n C dX11_made_45 1 rfl ?_
      refine Z_iload_n C dX11_made_46 2 rfl ?_
      refine Z_ci (rc0 := rmr 2 0 0) (Qk := KB 8 k n v (rnew ω0 q (.inr (8, [.int 0, .int 0, .int 0]))) q) (b := q) (As := [.int k, .int n, .int v]) C ki_X11_made_X8_init_89 rfl (Nat.le_of_ble_eq_true rfl) dX11_made_47 ⟨Nat.le_of_ble_eq_true rfl, Nat.le_of_ble_eq_true rfl⟩ (k_X8_init (List.mem_append_right _ (List.mem_singleton.mpr rfl)) (by decide +kernel) (va_up_self _ _ _)) (fun ω1 h1 => ?_)
      refine Z_aret C (Or.inl ⟨_, rfl⟩) dX11_made_50 ?_
      exact GB_mk hq h1 (kci_1 hk)
    · obtain rfl : (50 : Int) = off := Option.some.inj ho
      refine ⟨?_, by decide +kernel⟩
      show PR M 51 _ _ _ _
      have hk : k.toInt = 2 := by simp at hk; omega
      refine Z_new (fs := [.int 0, .int 0, .int 0]) C hU (ci := 3) rfl (fun _ h => List.mem_cons_of_mem _ (List.mem_append_left _ (List.mem_append_left _ (List.mem_append_left _ (List.mem_append_left _ (List.mem_append_left _ (List.mem_append_right _ h))))))) tyX3_ok (List.mem_of_getElem? (i := 4) rfl) (List.mem_of_getElem? (i := 5) rfl) (List.mem_of_getElem? (i := 6) rfl) dfX3 (Nat.le_of_ble_eq_true rfl) (Nat.le_of_ble_eq_true rfl) dX11_made_51 (fun q hq => ?_)
      refine Z_dup C dX11_made_54 rfl ?_
      refine Z_iload_n C dX11_made_55 0 rfl ?_
      refine Z_iload_n C dX11_made_56 1 rfl ?_
      refine Z_iload_n C dX11_made_57 2 rfl ?_
      refine Z_ci (rc0 := rmr 2 0 0) (Qk := KB 3 k n v (rnew ω0 q (.inr (3, [.int 0, .int 0, .int 0]))) q) (b := q) (As := [.int k, .int n, .int v]) C ki_X11_made_X3_init_94 rfl (Nat.le_of_ble_eq_true rfl) dX11_made_58 ⟨Nat.le_of_ble_eq_true rfl, Nat.le_of_ble_eq_true rfl⟩ (k_X3_init (List.mem_append_right _ (List.mem_singleton.mpr rfl)) (by decide +kernel) (va_up_self _ _ _)) (fun ω1 h1 => ?_)
      refine Z_aret C (Or.inl ⟨_, rfl⟩) dX11_made_61 ?_
      exact GB_mk hq h1 (kci_2 hk)
    · obtain rfl : (61 : Int) = off := Option.some.inj ho
      refine ⟨?_, by decide +kernel⟩
      show PR M 62 _ _ _ _
      have hk : k.toInt = 3 := by simp at hk; omega
      refine Z_new (fs := [.int 0, .int 0, .int 0]) C hU (ci := 0) rfl (fun _ h => List.mem_cons_of_mem _ (List.mem_append_left _ (List.mem_append_left _ (List.mem_append_left _ (List.mem_append_left _ (List.mem_append_right _ h)))))) tyX0_ok (List.mem_of_getElem? (i := 7) rfl) (List.mem_of_getElem? (i := 8) rfl) (List.mem_of_getElem? (i := 9) rfl) dfX0 (Nat.le_of_ble_eq_true rfl) (Nat.le_of_ble_eq_true rfl) dX11_made_62 (fun q hq => ?_)
      refine Z_dup C dX11_made_65 rfl ?_
      refine Z_iload_n C dX11_made_66 0 rfl ?_
      refine Z_iload_n C dX11_made_67 1 rfl ?_
      refine Z_iload_n C dX11_made_68 2 rfl ?_
      refine Z_ci (rc0 := rmr 2 0 0) (Qk := KB 0 k n v (rnew ω0 q (.inr (0, [.int 0, .int 0, .int 0]))) q) (b := q) (As := [.int k, .int n, .int v]) C ki_X11_made_X0_init_97 rfl (Nat.le_of_ble_eq_true rfl) dX11_made_69 ⟨Nat.le_of_ble_eq_true rfl, Nat.le_of_ble_eq_true rfl⟩ (k_X0_init (List.mem_append_right _ (List.mem_singleton.mpr rfl)) (by decide +kernel) (va_up_self _ _ _)) (fun ω1 h1 => ?_)
      refine Z_aret C (Or.inl ⟨_, rfl⟩) dX11_made_72 ?_
      exact GB_mk hq h1 (kci_3 hk)
    · obtain rfl : (72 : Int) = off := Option.some.inj ho
      refine ⟨?_, by decide +kernel⟩
      show PR M 73 _ _ _ _
      have hk : k.toInt = 4 := by simp at hk; omega
      refine Z_new (fs := [.int 0, .int 0, .int 0]) C hU (ci := 6) rfl (fun _ h => List.mem_cons_of_mem _ (List.mem_append_left _ (List.mem_append_left _ (List.mem_append_left _ (List.mem_append_right _ h))))) tyX6_ok (List.mem_of_getElem? (i := 10) rfl) (List.mem_of_getElem? (i := 11) rfl) (List.mem_of_getElem? (i := 12) rfl) dfX6 (Nat.le_of_ble_eq_true rfl) (Nat.le_of_ble_eq_true rfl) dX11_made_73 (fun q hq => ?_)
      refine Z_dup C dX11_made_76 rfl ?_
      refine Z_iload_n C dX11_made_77 0 rfl ?_
      refine Z_iload_n C dX11_made_78 1 rfl ?_
      refine Z_iload_n C dX11_made_79 2 rfl ?_
      refine Z_ci (rc0 := rmr 3 0 0) (Qk := KB 6 k n v (rnew ω0 q (.inr (6, [.int 0, .int 0, .int 0]))) q) (b := q) (As := [.int k, .int n, .int v]) C ki_X11_made_X6_init_100 rfl (Nat.le_of_ble_eq_true rfl) dX11_made_80 ⟨Nat.le_of_ble_eq_true rfl, Nat.le_of_ble_eq_true rfl⟩ (k_X6_init (List.mem_append_right _ (List.mem_singleton.mpr rfl)) (by decide +kernel) (va_up_self _ _ _)) (fun ω1 h1 => ?_)
      refine Z_aret C (Or.inl ⟨_, rfl⟩) dX11_made_83 ?_
      exact GB_mk hq h1 (kci_4 hk)
    · obtain rfl : (83 : Int) = off := Option.some.inj ho
      refine ⟨?_, by decide +kernel⟩
      show PR M 84 _ _ _ _
      have hk : k.toInt = 5 := by simp at hk; omega
      refine Z_new (fs := [.int 0, .int 0, .int 0]) C hU (ci := 7) rfl (fun _ h => List.mem_cons_of_mem _ (List.mem_append_left _ (List.mem_append_left _ (List.mem_append_right _ h)))) tyX7_ok (List.mem_of_getElem? (i := 13) rfl) (List.mem_of_getElem? (i := 14) rfl) (List.mem_of_getElem? (i := 15) rfl) dfX7 (Nat.le_of_ble_eq_true rfl) (Nat.le_of_ble_eq_true rfl) dX11_made_84 (fun q hq => ?_)
      refine Z_dup C dX11_made_87 rfl ?_
      refine Z_iload_n C dX11_made_88 0 rfl ?_
      refine Z_iload_n C dX11_made_89 1 rfl ?_
      refine Z_iload_n C dX11_made_90 2 rfl ?_
      refine Z_ci (rc0 := rmr 3 0 0) (Qk := KB 7 k n v (rnew ω0 q (.inr (7, [.int 0, .int 0, .int 0]))) q) (b := q) (As := [.int k, .int n, .int v]) C ki_X11_made_X7_init_103 rfl (Nat.le_of_ble_eq_true rfl) dX11_made_91 ⟨Nat.le_of_ble_eq_true rfl, Nat.le_of_ble_eq_true rfl⟩ (k_X7_init (List.mem_append_right _ (List.mem_singleton.mpr rfl)) (by decide +kernel) (va_up_self _ _ _)) (fun ω1 h1 => ?_)
      refine Z_aret C (Or.inl ⟨_, rfl⟩) dX11_made_94 ?_
      exact GB_mk hq h1 (kci_5 hk)
    · obtain rfl : (94 : Int) = off := Option.some.inj ho
      refine ⟨?_, by decide +kernel⟩
      show PR M 95 _ _ _ _
      have hk : k.toInt = 6 := by simp at hk; omega
      refine Z_new (fs := [.int 0, .int 0, .int 0]) C hU (ci := 10) rfl (fun _ h => List.mem_cons_of_mem _ (List.mem_append_left _ (List.mem_append_right _ h))) tyX10_ok (List.mem_of_getElem? (i := 16) rfl) (List.mem_of_getElem? (i := 17) rfl) (List.mem_of_getElem? (i := 18) rfl) dfX10 (Nat.le_of_ble_eq_true rfl) (Nat.le_of_ble_eq_true rfl) dX11_made_95 (fun q hq => ?_)
      refine Z_dup C dX11_made_98 rfl ?_
      refine Z_iload_n C dX11_made_99 0 rfl ?_
      refine Z_iload_n C dX11_made_100 1 rfl ?_
      refine Z_iload_n C dX11_made_101 2 rfl ?_
      refine Z_ci (rc0 := rmr 3 0 0) (Qk := KB 10 k n v (rnew ω0 q (.inr (10, [.int 0, .int 0, .int 0]))) q) (b := q) (As := [.int k, .int n, .int v]) C ki_X11_made_X10_init_106 rfl (Nat.le_of_ble_eq_true rfl) dX11_made_102 ⟨Nat.le_of_ble_eq_true rfl, Nat.le_of_ble_eq_true rfl⟩ (k_X10_init (List.mem_append_right _ (List.mem_singleton.mpr rfl)) (by decide +kernel) (va_up_self _ _ _)) (fun ω1 h1 => ?_)
      refine Z_aret C (Or.inl ⟨_, rfl⟩) dX11_made_105 ?_
      exact GB_mk hq h1 (kci_6 hk)
    · exact absurd (Array.getElem?_eq_some_iff.mp ho).1 (Nat.not_lt.mpr (by show 6 ≤ _; omega))
noncomputable def NB (V : Vx) (N9 : Nat) (ω0 : RWd) (h : Nat) (ω : RWd) : Prop := ∃ q4 : Nat, BT ω0 ω h [(q4, .inl (vC V 0, (N9, .inl (fun _ => 0))))] ∧ ω.2 h = .inr (5, [.ref q4, .int (0 : Int32)])
theorem pa_X5_init_7 : PA RX5 wsX5_init 7 5 1 "NineMowers$Numbers" .int := by
  show _ ∧ _ ∧ _ ∧ _ ∧ _ ∧ _ ∧ _ ∧ _
  exact ⟨by decide +kernel, fun _ h => List.mem_cons_of_mem _ (List.mem_append_right _ h), List.mem_of_getElem? (i := 4) rfl, rfl, rfl, by decide +kernel, ⟨tyX5, tyX5_ok⟩, nmX5⟩
theorem pf_X5_init_13 : PF RX5 wsX5_init 13 5 0 "NineMowers$Numbers" (.array .int) := by
  show _ ∧ _ ∧ _ ∧ _ ∧ _ ∧ _ ∧ _ ∧ _ ∧ _
  exact ⟨by decide +kernel, fun _ h => List.mem_cons_of_mem _ (List.mem_append_right _ h), List.mem_of_getElem? (i := 6) rfl, rfl, rfl, rfl, by decide +kernel, ⟨tyX5, tyX5_ok⟩, nmX5⟩
set_option maxRecDepth 100000 in
set_option maxHeartbeats 8000000 in
theorem k_X5_init {l : Launch} {V : Vx} {h : Nat} {ω0 : RWd} {n9 : Int32} {N9 : Nat} (hU : UPV V) (hm : h ∈ ω0.1) (c0 : ω0.2 h = .inr (5, [.null, .int 0])) (hn9 : ¬ n9 < 0) (hN9 : n9.toNatClampNeg = N9) (hm9 : N9 ≤ 1000) : Kr l V yX5_init wsX5_init (rmr 1 (0 + 1) (0 + N9)) (0 + 1) (0 + N9) [.ref h, .int n9] ω0 (QRV V (NB V N9 ω0 h)) := by
  refine Kr_of (by decide +kernel) rfl rfl (Nat.le_of_ble_eq_true rfl) (fun M hl hV hN C hI => ?_)
  subst hl
  subst hV
  replace hI := hI rfl
  have b0 := BT_0 hm
  show PR M 0 [(0, .ref h), (1, .int n9)] [] ω0 (0, 0)
  refine Z_aload_n C dX5_init_0 0 rfl ?_
  refine Z_objInit C (List.mem_of_getElem? (i := 1) rfl) (List.mem_of_getElem? (i := 2) rfl) (List.mem_of_getElem? (i := 3) rfl) (Nat.le_of_ble_eq_true rfl) (Nat.le_of_ble_eq_true rfl) dX5_init_1 ?_
  refine Z_aload_n C dX5_init_4 0 rfl ?_
  refine Z_iconst C dX5_init_5 (v := (0 : Int32)) (by decide +kernel) ?_
  refine Y_put C pa_X5_init_7 b0 c0 rfl rfl (Nat.le_of_ble_eq_true rfl) dX5_init_6 (fun ω1 bZ cZ => ?_)
  have b2 := bZ
  clear bZ 
  have c3 : ω1.2 h = .inr (5, [.null, .int (0 : Int32)]) := cZ
  clear cZ
  refine Z_aload_n C dX5_init_9 0 rfl ?_
  refine Z_iload_n C dX5_init_10 1 rfl ?_
  refine Y_newa (t := 0) (a0 := (N9, .inl (fun _ => 0))) C hU b2 (List.mem_of_getElem? (i := 5) rfl) rfl rfl (fun _ _ q => q) (fun _ => rfl) hn9 hN9 (by rw [show componentBytes .int = 4 from rfl]; omega) (Nat.le_refl _) (Nat.le_refl _) dX5_init_11 (fun q4 ω5 bZ eZ => ?_)
  have b6 := bZ
  clear bZ b2
  have cZ := eZ.trans c3
  have c7 := cZ
  clear cZ eZ
  refine Y_putF C hI pf_X5_init_13 b6 c7 rfl rfl (Nat.le_of_ble_eq_true rfl) dX5_init_13 (fun ω8 bZ cZ => ?_)
  have b9 := bZ
  clear bZ b6
  have c10 : ω8.2 h = .inr (5, [.ref q4, .int (0 : Int32)]) := cZ
  clear cZ
  exact Z_vret C dX5_init_16 ⟨q4, b9, c10⟩
noncomputable def TB (V : Vx) (ω0 : RWd) (h : Nat) (ω : RWd) : Prop := ∃ q1 : Nat, BT ω0 ω h [(q1, .inl (vC V 3, (60, .inr (.inl (fun _ => 0)))))] ∧ ω.2 h = .inr (9, [.ref q1, .int (-1 : Int32), .int (0 : Int32)])
theorem pf_X9_init_9 : PF RX9 wsX9_init 9 9 0 "NineMowers$Tape" (.array .long) := by
  show _ ∧ _ ∧ _ ∧ _ ∧ _ ∧ _ ∧ _ ∧ _ ∧ _
  exact ⟨by decide +kernel, fun _ h => List.mem_cons_of_mem _ (List.mem_append_right _ h), List.mem_of_getElem? (i := 5) rfl, rfl, rfl, rfl, by decide +kernel, ⟨tyX9, tyX9_ok⟩, nmX9⟩
theorem pa_X9_init_13 : PA RX9 wsX9_init 13 9 1 "NineMowers$Tape" .int := by
  show _ ∧ _ ∧ _ ∧ _ ∧ _ ∧ _ ∧ _ ∧ _
  exact ⟨by decide +kernel, fun _ h => List.mem_cons_of_mem _ (List.mem_append_right _ h), List.mem_of_getElem? (i := 6) rfl, rfl, rfl, by decide +kernel, ⟨tyX9, tyX9_ok⟩, nmX9⟩
theorem pa_X9_init_17 : PA RX9 wsX9_init 17 9 2 "NineMowers$Tape" .int := by
  show _ ∧ _ ∧ _ ∧ _ ∧ _ ∧ _ ∧ _ ∧ _
  exact ⟨by decide +kernel, fun _ h => List.mem_cons_of_mem _ (List.mem_append_right _ h), List.mem_of_getElem? (i := 7) rfl, rfl, rfl, by decide +kernel, ⟨tyX9, tyX9_ok⟩, nmX9⟩
set_option maxRecDepth 100000 in
set_option maxHeartbeats 8000000 in
theorem k_X9_init {l : Launch} {V : Vx} {h : Nat} {ω0 : RWd} (hU : UPV V) (hm : h ∈ ω0.1) (c0 : ω0.2 h = .inr (9, [.null, .int 0, .int 0])) : Kr l V yX9_init wsX9_init (rmr 1 1 (60)) 1 (60) [.ref h] ω0 (QRV V (TB V ω0 h)) := by
  refine Kr_of (by decide +kernel) rfl rfl (Nat.le_of_ble_eq_true rfl) (fun M hl hV hN C hI => ?_)
  subst hl
  subst hV
  replace hI := hI rfl
  have b0 := BT_0 hm
  show PR M 0 [(0, .ref h)] [] ω0 (0, 0)
  refine Z_aload_n C dX9_init_0 0 rfl ?_
  refine Z_objInit C (List.mem_of_getElem? (i := 1) rfl) (List.mem_of_getElem? (i := 2) rfl) (List.mem_of_getElem? (i := 3) rfl) (Nat.le_of_ble_eq_true rfl) (Nat.le_of_ble_eq_true rfl) dX9_init_1 ?_
  refine Z_aload_n C dX9_init_4 0 rfl ?_
  refine Z_bipush C dX9_init_5 (v := (60 : Int32)) (by decide +kernel) ?_
  refine Y_newa (t := 3) (a0 := (60, .inr (.inl (fun _ => 0)))) C hU b0 (List.mem_of_getElem? (i := 4) rfl) rfl rfl (fun _ _ q => q) (fun _ => rfl) (by decide +kernel) rfl (by decide +kernel) (Nat.le_of_ble_eq_true rfl) (Nat.le_of_ble_eq_true rfl) dX9_init_7 (fun q1 ω2 bZ eZ => ?_)
  have b3 := bZ
  clear bZ 
  have cZ := eZ.trans c0
  have c4 := cZ
  clear cZ eZ
  show PR M 9 [(0, .ref h)] [.ref q1, .ref h] ω2 (1, 60)
  refine Y_putF C hI pf_X9_init_9 b3 c4 rfl rfl (Nat.le_of_ble_eq_true rfl) dX9_init_9 (fun ω5 bZ cZ => ?_)
  have b6 := bZ
  clear bZ b3
  have c7 : ω5.2 h = .inr (9, [.ref q1, .int 0, .int 0]) := cZ
  clear cZ
  refine Z_aload_n C dX9_init_12 0 rfl ?_
  refine Z_iconst C dX9_init_13 (v := (-1 : Int32)) (by decide +kernel) ?_
  refine Y_put C pa_X9_init_13 b6 c7 rfl rfl (Nat.le_of_ble_eq_true rfl) dX9_init_14 (fun ω8 bZ cZ => ?_)
  have b9 := bZ
  clear bZ b6
  have c10 : ω8.2 h = .inr (9, [.ref q1, .int (-1 : Int32), .int 0]) := cZ
  clear cZ
  refine Z_aload_n C dX9_init_17 0 rfl ?_
  refine Z_iconst C dX9_init_18 (v := (0 : Int32)) (by decide +kernel) ?_
  refine Y_put C pa_X9_init_17 b9 c10 rfl rfl (Nat.le_of_ble_eq_true rfl) dX9_init_19 (fun ω11 bZ cZ => ?_)
  have b12 := bZ
  clear bZ b9
  have c13 : ω11.2 h = .inr (9, [.ref q1, .int (-1 : Int32), .int (0 : Int32)]) := cZ
  clear cZ
  exact Z_vret C dX9_init_22 ⟨q1, b12, c13⟩
noncomputable def FB (V : Vx) (ω0 : RWd) (h : Nat) (ω : RWd) : Prop := ∃ q10 q20 q27 q34 : Nat, BT ω0 ω h [(q10, .inl (vC V 0, (100, .inl (fun _ => 0)))), (q20, .inl (vC V 0, (10, .inl (fun _ => 0)))), (q27, .inl (vC V 0, (10, .inl (fun _ => 0)))), (q34, .inl (vC V 0, (10, .inl (fun _ => 0))))] ∧ ω.2 h = .inr (2, [.int (2 : Int32), .int (1 : Int32), .int (60 : Int32), .ref q10, .int (0 : Int32), .ref q20, .ref q27, .ref q34, .int (0 : Int32), .null, .int (0 : Int32), .int (0 : Int32)])
theorem pa_X2_init_9 : PA RX2 wsX2_init 9 2 0 "NineMowers$Field" .int := by
  show _ ∧ _ ∧ _ ∧ _ ∧ _ ∧ _ ∧ _ ∧ _
  exact ⟨by decide +kernel, fun _ h => List.mem_cons_of_mem _ (List.mem_append_right _ h), List.mem_of_getElem? (i := 4) rfl, rfl, rfl, by decide +kernel, ⟨tyX2, tyX2_ok⟩, nmX2⟩
theorem pa_X2_init_15 : PA RX2 wsX2_init 15 2 1 "NineMowers$Field" .int := by
  show _ ∧ _ ∧ _ ∧ _ ∧ _ ∧ _ ∧ _ ∧ _
  exact ⟨by decide +kernel, fun _ h => List.mem_cons_of_mem _ (List.mem_append_right _ h), List.mem_of_getElem? (i := 5) rfl, rfl, rfl, by decide +kernel, ⟨tyX2, tyX2_ok⟩, nmX2⟩
theorem pa_X2_init_18 : PA RX2 wsX2_init 18 2 2 "NineMowers$Field" .int := by
  show _ ∧ _ ∧ _ ∧ _ ∧ _ ∧ _ ∧ _ ∧ _
  exact ⟨by decide +kernel, fun _ h => List.mem_cons_of_mem _ (List.mem_append_right _ h), List.mem_of_getElem? (i := 6) rfl, rfl, rfl, by decide +kernel, ⟨tyX2, tyX2_ok⟩, nmX2⟩
theorem pf_X2_init_21 : PF RX2 wsX2_init 21 2 3 "NineMowers$Field" (.array .int) := by
  show _ ∧ _ ∧ _ ∧ _ ∧ _ ∧ _ ∧ _ ∧ _ ∧ _
  exact ⟨by decide +kernel, fun _ h => List.mem_cons_of_mem _ (List.mem_append_right _ h), List.mem_of_getElem? (i := 8) rfl, rfl, rfl, rfl, by decide +kernel, ⟨tyX2, tyX2_ok⟩, nmX2⟩
theorem pa_X2_init_25 : PA RX2 wsX2_init 25 2 4 "NineMowers$Field" .int := by
  show _ ∧ _ ∧ _ ∧ _ ∧ _ ∧ _ ∧ _ ∧ _
  exact ⟨by decide +kernel, fun _ h => List.mem_cons_of_mem _ (List.mem_append_right _ h), List.mem_of_getElem? (i := 9) rfl, rfl, rfl, by decide +kernel, ⟨tyX2, tyX2_ok⟩, nmX2⟩
theorem pf_X2_init_28 : PF RX2 wsX2_init 28 2 5 "NineMowers$Field" (.array .int) := by
  show _ ∧ _ ∧ _ ∧ _ ∧ _ ∧ _ ∧ _ ∧ _ ∧ _
  exact ⟨by decide +kernel, fun _ h => List.mem_cons_of_mem _ (List.mem_append_right _ h), List.mem_of_getElem? (i := 10) rfl, rfl, rfl, rfl, by decide +kernel, ⟨tyX2, tyX2_ok⟩, nmX2⟩
theorem pf_X2_init_31 : PF RX2 wsX2_init 31 2 6 "NineMowers$Field" (.array .int) := by
  show _ ∧ _ ∧ _ ∧ _ ∧ _ ∧ _ ∧ _ ∧ _ ∧ _
  exact ⟨by decide +kernel, fun _ h => List.mem_cons_of_mem _ (List.mem_append_right _ h), List.mem_of_getElem? (i := 11) rfl, rfl, rfl, rfl, by decide +kernel, ⟨tyX2, tyX2_ok⟩, nmX2⟩
theorem pf_X2_init_34 : PF RX2 wsX2_init 34 2 7 "NineMowers$Field" (.array .int) := by
  show _ ∧ _ ∧ _ ∧ _ ∧ _ ∧ _ ∧ _ ∧ _ ∧ _
  exact ⟨by decide +kernel, fun _ h => List.mem_cons_of_mem _ (List.mem_append_right _ h), List.mem_of_getElem? (i := 12) rfl, rfl, rfl, rfl, by decide +kernel, ⟨tyX2, tyX2_ok⟩, nmX2⟩
theorem pa_X2_init_37 : PA RX2 wsX2_init 37 2 8 "NineMowers$Field" .int := by
  show _ ∧ _ ∧ _ ∧ _ ∧ _ ∧ _ ∧ _ ∧ _
  exact ⟨by decide +kernel, fun _ h => List.mem_cons_of_mem _ (List.mem_append_right _ h), List.mem_of_getElem? (i := 13) rfl, rfl, rfl, by decide +kernel, ⟨tyX2, tyX2_ok⟩, nmX2⟩
theorem pa_X2_init_40 : PA RX2 wsX2_init 40 2 9 "NineMowers$Field" (.array .byte) := by
  show _ ∧ _ ∧ _ ∧ _ ∧ _ ∧ _ ∧ _ ∧ _
  exact ⟨by decide +kernel, fun _ h => List.mem_cons_of_mem _ (List.mem_append_right _ h), List.mem_of_getElem? (i := 14) rfl, rfl, rfl, by decide +kernel, ⟨tyX2, tyX2_ok⟩, nmX2⟩
theorem pa_X2_init_44 : PA RX2 wsX2_init 44 2 10 "NineMowers$Field" .int := by
  show _ ∧ _ ∧ _ ∧ _ ∧ _ ∧ _ ∧ _ ∧ _
  exact ⟨by decide +kernel, fun _ h => List.mem_cons_of_mem _ (List.mem_append_right _ h), List.mem_of_getElem? (i := 15) rfl, rfl, rfl, by decide +kernel, ⟨tyX2, tyX2_ok⟩, nmX2⟩
theorem pa_X2_init_47 : PA RX2 wsX2_init 47 2 11 "NineMowers$Field" .int := by
  show _ ∧ _ ∧ _ ∧ _ ∧ _ ∧ _ ∧ _ ∧ _
  exact ⟨by decide +kernel, fun _ h => List.mem_cons_of_mem _ (List.mem_append_right _ h), List.mem_of_getElem? (i := 16) rfl, rfl, rfl, by decide +kernel, ⟨tyX2, tyX2_ok⟩, nmX2⟩
set_option maxRecDepth 100000 in
set_option maxHeartbeats 8000000 in
theorem k_X2_init {l : Launch} {V : Vx} {h : Nat} {ω0 : RWd} (hU : UPV V) (hm : h ∈ ω0.1) (c0 : ω0.2 h = .inr (2, [.int 0, .int 0, .int 0, .null, .int 0, .null, .null, .null, .int 0, .null, .int 0, .int 0])) : Kr l V yX2_init wsX2_init (rmr 1 4 (130)) 4 (130) [.ref h] ω0 (QRV V (FB V ω0 h)) := by
  refine Kr_of (by decide +kernel) rfl rfl (Nat.le_of_ble_eq_true rfl) (fun M hl hV hN C hI => ?_)
  subst hl
  subst hV
  replace hI := hI rfl
  have b0 := BT_0 hm
  show PR M 0 [(0, .ref h)] [] ω0 (0, 0)
  refine Z_aload_n C dX2_init_0 0 rfl ?_
  refine Z_objInit C (List.mem_of_getElem? (i := 1) rfl) (List.mem_of_getElem? (i := 2) rfl) (List.mem_of_getElem? (i := 3) rfl) (Nat.le_of_ble_eq_true rfl) (Nat.le_of_ble_eq_true rfl) dX2_init_1 ?_
  refine Z_aload_n C dX2_init_4 0 rfl ?_
  refine Z_iconst C dX2_init_5 (v := (2 : Int32)) (by decide +kernel) ?_
  refine Y_put C pa_X2_init_9 b0 c0 rfl rfl (Nat.le_of_ble_eq_true rfl) dX2_init_6 (fun ω1 bZ cZ => ?_)
  have b2 := bZ
  clear bZ 
  have c3 : ω1.2 h = .inr (2, [.int (2 : Int32), .int 0, .int 0, .null, .int 0, .null, .null, .null, .int 0, .null, .int 0, .int 0]) := cZ
  clear cZ
  refine Z_aload_n C dX2_init_9 0 rfl ?_
  refine Z_iconst C dX2_init_10 (v := (1 : Int32)) (by decide +kernel) ?_
  refine Y_put C pa_X2_init_15 b2 c3 rfl rfl (Nat.le_of_ble_eq_true rfl) dX2_init_11 (fun ω4 bZ cZ => ?_)
  have b5 := bZ
  clear bZ b2
  have c6 : ω4.2 h = .inr (2, [.int (2 : Int32), .int (1 : Int32), .int 0, .null, .int 0, .null, .null, .null, .int 0, .null, .int 0, .int 0]) := cZ
  clear cZ
  refine Z_aload_n C dX2_init_14 0 rfl ?_
  refine Z_bipush C dX2_init_15 (v := (60 : Int32)) (by decide +kernel) ?_
  refine Y_put C pa_X2_init_18 b5 c6 rfl rfl (Nat.le_of_ble_eq_true rfl) dX2_init_17 (fun ω7 bZ cZ => ?_)
  have b8 := bZ
  clear bZ b5
  have c9 : ω7.2 h = .inr (2, [.int (2 : Int32), .int (1 : Int32), .int (60 : Int32), .null, .int 0, .null, .null, .null, .int 0, .null, .int 0, .int 0]) := cZ
  clear cZ
  refine Z_aload_n C dX2_init_20 0 rfl ?_
  refine Z_bipush C dX2_init_21 (v := (100 : Int32)) (by decide +kernel) ?_
  refine Y_newa (t := 0) (a0 := (100, .inl (fun _ => 0))) C hU b8 (List.mem_of_getElem? (i := 7) rfl) rfl rfl (fun _ _ q => q) (fun _ => rfl) (by decide +kernel) rfl (by decide +kernel) (Nat.le_of_ble_eq_true rfl) (Nat.le_of_ble_eq_true rfl) dX2_init_23 (fun q10 ω11 bZ eZ => ?_)
  have b12 := bZ
  clear bZ b8
  have cZ := eZ.trans c9
  have c13 := cZ
  clear cZ eZ
  show PR M 25 [(0, .ref h)] [.ref q10, .ref h] ω11 (1, 100)
  refine Y_putF C hI pf_X2_init_21 b12 c13 rfl rfl (Nat.le_of_ble_eq_true rfl) dX2_init_25 (fun ω14 bZ cZ => ?_)
  have b15 := bZ
  clear bZ b12
  have c16 : ω14.2 h = .inr (2, [.int (2 : Int32), .int (1 : Int32), .int (60 : Int32), .ref q10, .int 0, .null, .null, .null, .int 0, .null, .int 0, .int 0]) := cZ
  clear cZ
  refine Z_aload_n C dX2_init_28 0 rfl ?_
  refine Z_iconst C dX2_init_29 (v := (0 : Int32)) (by decide +kernel) ?_
  refine Y_put C pa_X2_init_25 b15 c16 rfl rfl (Nat.le_of_ble_eq_true rfl) dX2_init_30 (fun ω17 bZ cZ => ?_)
  have b18 := bZ
  clear bZ b15
  have c19 : ω17.2 h = .inr (2, [.int (2 : Int32), .int (1 : Int32), .int (60 : Int32), .ref q10, .int (0 : Int32), .null, .null, .null, .int 0, .null, .int 0, .int 0]) := cZ
  clear cZ
  refine Z_aload_n C dX2_init_33 0 rfl ?_
  refine Z_bipush C dX2_init_34 (v := (10 : Int32)) (by decide +kernel) ?_
  refine Y_newa (t := 0) (a0 := (10, .inl (fun _ => 0))) C hU b18 (List.mem_of_getElem? (i := 7) rfl) rfl rfl (fun _ _ q => q) (fun _ => rfl) (by decide +kernel) rfl (by decide +kernel) (Nat.le_of_ble_eq_true rfl) (Nat.le_of_ble_eq_true rfl) dX2_init_36 (fun q20 ω21 bZ eZ => ?_)
  have b22 := bZ
  clear bZ b18
  have cZ := eZ.trans c19
  have c23 := cZ
  clear cZ eZ
  show PR M 38 [(0, .ref h)] [.ref q20, .ref h] ω21 (2, 110)
  refine Y_putF C hI pf_X2_init_28 b22 c23 rfl rfl (Nat.le_of_ble_eq_true rfl) dX2_init_38 (fun ω24 bZ cZ => ?_)
  have b25 := bZ
  clear bZ b22
  have c26 : ω24.2 h = .inr (2, [.int (2 : Int32), .int (1 : Int32), .int (60 : Int32), .ref q10, .int (0 : Int32), .ref q20, .null, .null, .int 0, .null, .int 0, .int 0]) := cZ
  clear cZ
  refine Z_aload_n C dX2_init_41 0 rfl ?_
  refine Z_bipush C dX2_init_42 (v := (10 : Int32)) (by decide +kernel) ?_
  refine Y_newa (t := 0) (a0 := (10, .inl (fun _ => 0))) C hU b25 (List.mem_of_getElem? (i := 7) rfl) rfl rfl (fun _ _ q => q) (fun _ => rfl) (by decide +kernel) rfl (by decide +kernel) (Nat.le_of_ble_eq_true rfl) (Nat.le_of_ble_eq_true rfl) dX2_init_44 (fun q27 ω28 bZ eZ => ?_)
  have b29 := bZ
  clear bZ b25
  have cZ := eZ.trans c26
  have c30 := cZ
  clear cZ eZ
  show PR M 46 [(0, .ref h)] [.ref q27, .ref h] ω28 (3, 120)
  refine Y_putF C hI pf_X2_init_31 b29 c30 rfl rfl (Nat.le_of_ble_eq_true rfl) dX2_init_46 (fun ω31 bZ cZ => ?_)
  have b32 := bZ
  clear bZ b29
  have c33 : ω31.2 h = .inr (2, [.int (2 : Int32), .int (1 : Int32), .int (60 : Int32), .ref q10, .int (0 : Int32), .ref q20, .ref q27, .null, .int 0, .null, .int 0, .int 0]) := cZ
  clear cZ
  refine Z_aload_n C dX2_init_49 0 rfl ?_
  refine Z_bipush C dX2_init_50 (v := (10 : Int32)) (by decide +kernel) ?_
  refine Y_newa (t := 0) (a0 := (10, .inl (fun _ => 0))) C hU b32 (List.mem_of_getElem? (i := 7) rfl) rfl rfl (fun _ _ q => q) (fun _ => rfl) (by decide +kernel) rfl (by decide +kernel) (Nat.le_of_ble_eq_true rfl) (Nat.le_of_ble_eq_true rfl) dX2_init_52 (fun q34 ω35 bZ eZ => ?_)
  have b36 := bZ
  clear bZ b32
  have cZ := eZ.trans c33
  have c37 := cZ
  clear cZ eZ
  show PR M 54 [(0, .ref h)] [.ref q34, .ref h] ω35 (4, 130)
  refine Y_putF C hI pf_X2_init_34 b36 c37 rfl rfl (Nat.le_of_ble_eq_true rfl) dX2_init_54 (fun ω38 bZ cZ => ?_)
  have b39 := bZ
  clear bZ b36
  have c40 : ω38.2 h = .inr (2, [.int (2 : Int32), .int (1 : Int32), .int (60 : Int32), .ref q10, .int (0 : Int32), .ref q20, .ref q27, .ref q34, .int 0, .null, .int 0, .int 0]) := cZ
  clear cZ
  refine Z_aload_n C dX2_init_57 0 rfl ?_
  refine Z_iconst C dX2_init_58 (v := (0 : Int32)) (by decide +kernel) ?_
  refine Y_put C pa_X2_init_37 b39 c40 rfl rfl (Nat.le_of_ble_eq_true rfl) dX2_init_59 (fun ω41 bZ cZ => ?_)
  have b42 := bZ
  clear bZ b39
  have c43 : ω41.2 h = .inr (2, [.int (2 : Int32), .int (1 : Int32), .int (60 : Int32), .ref q10, .int (0 : Int32), .ref q20, .ref q27, .ref q34, .int (0 : Int32), .null, .int 0, .int 0]) := cZ
  clear cZ
  refine Z_aload_n C dX2_init_62 0 rfl ?_
  refine Z_null C dX2_init_63 ?_
  refine Y_put C pa_X2_init_40 b42 c43 rfl rfl (Nat.le_of_ble_eq_true rfl) dX2_init_64 (fun ω44 bZ cZ => ?_)
  have b45 := bZ
  clear bZ b42
  have c46 : ω44.2 h = .inr (2, [.int (2 : Int32), .int (1 : Int32), .int (60 : Int32), .ref q10, .int (0 : Int32), .ref q20, .ref q27, .ref q34, .int (0 : Int32), .null, .int 0, .int 0]) := cZ
  clear cZ
  refine Z_aload_n C dX2_init_67 0 rfl ?_
  refine Z_iconst C dX2_init_68 (v := (0 : Int32)) (by decide +kernel) ?_
  refine Y_put C pa_X2_init_44 b45 c46 rfl rfl (Nat.le_of_ble_eq_true rfl) dX2_init_69 (fun ω47 bZ cZ => ?_)
  have b48 := bZ
  clear bZ b45
  have c49 : ω47.2 h = .inr (2, [.int (2 : Int32), .int (1 : Int32), .int (60 : Int32), .ref q10, .int (0 : Int32), .ref q20, .ref q27, .ref q34, .int (0 : Int32), .null, .int (0 : Int32), .int 0]) := cZ
  clear cZ
  refine Z_aload_n C dX2_init_72 0 rfl ?_
  refine Z_iconst C dX2_init_73 (v := (0 : Int32)) (by decide +kernel) ?_
  refine Y_put C pa_X2_init_47 b48 c49 rfl rfl (Nat.le_of_ble_eq_true rfl) dX2_init_74 (fun ω50 bZ cZ => ?_)
  have b51 := bZ
  clear bZ b48
  have c52 : ω50.2 h = .inr (2, [.int (2 : Int32), .int (1 : Int32), .int (60 : Int32), .ref q10, .int (0 : Int32), .ref q20, .ref q27, .ref q34, .int (0 : Int32), .null, .int (0 : Int32), .int (0 : Int32)]) := cZ
  clear cZ
  exact Z_vret C dX2_init_77 ⟨q10, q20, q27, q34, b51, c52⟩
noncomputable def CB (V : Vx) (ω0 : RWd) (h : Nat) (ω : RWd) : Prop := ∃ q1 q11 q21 q28 q35 q42 q49 q65 q67 q73 q75 q81 q83 q89 q96 : Nat, BT ω0 ω h [(q1, .inl (vC V 4, 6, .inr (.inr (.inr (.inr (fun _ => none)))))), (q11, .inl (vC V 0, (6, .inl (fun _ => 0)))), (q21, .inl (vC V 0, (6, .inl (fun _ => 0)))), (q28, .inl (vC V 0, (6, .inl (fun _ => 0)))), (q35, .inl (vC V 0, (6, .inl (fun _ => 0)))), (q42, .inl (vC V 0, (6, .inl (fun _ => 0)))), (q49, .inl (vC V 0, (24, .inl (fun _ => 0)))), (q65, .inr (5, [.ref q67, .int (0 : Int32)])), (q67, .inl (vC V 0, (18, .inl (fun _ => 0)))), (q73, .inr (5, [.ref q75, .int (0 : Int32)])), (q75, .inl (vC V 0, (10, .inl (fun _ => 0)))), (q81, .inr (5, [.ref q83, .int (0 : Int32)])), (q83, .inl (vC V 0, (8, .inl (fun _ => 0)))), (q89, .inl (vC V 0, (6, .inl (fun _ => 0)))), (q96, .inl (vC V 0, (6, .inl (fun _ => 0))))] ∧ ω.2 h = .inr (1, [.ref q1, .int (0 : Int32), .ref q11, .int (0 : Int32), .ref q21, .ref q28, .ref q35, .ref q42, .ref q49, .int (0 : Int32), .null, .int (-1 : Int32), .ref q65, .ref q73, .ref q81, .ref q89, .ref q96])
theorem pf_X1_init_11 : PF RX1 wsX1_init 11 1 0 "NineMowers$Course" (.array (.object "NineMowers$Mower")) := by
  show _ ∧ _ ∧ _ ∧ _ ∧ _ ∧ _ ∧ _ ∧ _ ∧ _
  exact ⟨by decide +kernel, fun _ h => List.mem_cons_of_mem _ (List.mem_append_left _ (List.mem_append_right _ h)), List.mem_of_getElem? (i := 5) rfl, rfl, rfl, rfl, by decide +kernel, ⟨tyX1, tyX1_ok⟩, nmX1⟩
theorem pa_X1_init_17 : PA RX1 wsX1_init 17 1 1 "NineMowers$Course" .int := by
  show _ ∧ _ ∧ _ ∧ _ ∧ _ ∧ _ ∧ _ ∧ _
  exact ⟨by decide +kernel, fun _ h => List.mem_cons_of_mem _ (List.mem_append_left _ (List.mem_append_right _ h)), List.mem_of_getElem? (i := 6) rfl, rfl, rfl, by decide +kernel, ⟨tyX1, tyX1_ok⟩, nmX1⟩
theorem pf_X1_init_21 : PF RX1 wsX1_init 21 1 2 "NineMowers$Course" (.array .int) := by
  show _ ∧ _ ∧ _ ∧ _ ∧ _ ∧ _ ∧ _ ∧ _ ∧ _
  exact ⟨by decide +kernel, fun _ h => List.mem_cons_of_mem _ (List.mem_append_left _ (List.mem_append_right _ h)), List.mem_of_getElem? (i := 8) rfl, rfl, rfl, rfl, by decide +kernel, ⟨tyX1, tyX1_ok⟩, nmX1⟩
theorem pa_X1_init_25 : PA RX1 wsX1_init 25 1 3 "NineMowers$Course" .int := by
  show _ ∧ _ ∧ _ ∧ _ ∧ _ ∧ _ ∧ _ ∧ _
  exact ⟨by decide +kernel, fun _ h => List.mem_cons_of_mem _ (List.mem_append_left _ (List.mem_append_right _ h)), List.mem_of_getElem? (i := 9) rfl, rfl, rfl, by decide +kernel, ⟨tyX1, tyX1_ok⟩, nmX1⟩
theorem pf_X1_init_28 : PF RX1 wsX1_init 28 1 4 "NineMowers$Course" (.array .int) := by
  show _ ∧ _ ∧ _ ∧ _ ∧ _ ∧ _ ∧ _ ∧ _ ∧ _
  exact ⟨by decide +kernel, fun _ h => List.mem_cons_of_mem _ (List.mem_append_left _ (List.mem_append_right _ h)), List.mem_of_getElem? (i := 10) rfl, rfl, rfl, rfl, by decide +kernel, ⟨tyX1, tyX1_ok⟩, nmX1⟩
theorem pf_X1_init_31 : PF RX1 wsX1_init 31 1 5 "NineMowers$Course" (.array .int) := by
  show _ ∧ _ ∧ _ ∧ _ ∧ _ ∧ _ ∧ _ ∧ _ ∧ _
  exact ⟨by decide +kernel, fun _ h => List.mem_cons_of_mem _ (List.mem_append_left _ (List.mem_append_right _ h)), List.mem_of_getElem? (i := 11) rfl, rfl, rfl, rfl, by decide +kernel, ⟨tyX1, tyX1_ok⟩, nmX1⟩
theorem pf_X1_init_34 : PF RX1 wsX1_init 34 1 6 "NineMowers$Course" (.array .int) := by
  show _ ∧ _ ∧ _ ∧ _ ∧ _ ∧ _ ∧ _ ∧ _ ∧ _
  exact ⟨by decide +kernel, fun _ h => List.mem_cons_of_mem _ (List.mem_append_left _ (List.mem_append_right _ h)), List.mem_of_getElem? (i := 12) rfl, rfl, rfl, rfl, by decide +kernel, ⟨tyX1, tyX1_ok⟩, nmX1⟩
theorem pf_X1_init_37 : PF RX1 wsX1_init 37 1 7 "NineMowers$Course" (.array .int) := by
  show _ ∧ _ ∧ _ ∧ _ ∧ _ ∧ _ ∧ _ ∧ _ ∧ _
  exact ⟨by decide +kernel, fun _ h => List.mem_cons_of_mem _ (List.mem_append_left _ (List.mem_append_right _ h)), List.mem_of_getElem? (i := 13) rfl, rfl, rfl, rfl, by decide +kernel, ⟨tyX1, tyX1_ok⟩, nmX1⟩
theorem pf_X1_init_40 : PF RX1 wsX1_init 40 1 8 "NineMowers$Course" (.array .int) := by
  show _ ∧ _ ∧ _ ∧ _ ∧ _ ∧ _ ∧ _ ∧ _ ∧ _
  exact ⟨by decide +kernel, fun _ h => List.mem_cons_of_mem _ (List.mem_append_left _ (List.mem_append_right _ h)), List.mem_of_getElem? (i := 14) rfl, rfl, rfl, rfl, by decide +kernel, ⟨tyX1, tyX1_ok⟩, nmX1⟩
theorem pa_X1_init_43 : PA RX1 wsX1_init 43 1 9 "NineMowers$Course" .int := by
  show _ ∧ _ ∧ _ ∧ _ ∧ _ ∧ _ ∧ _ ∧ _
  exact ⟨by decide +kernel, fun _ h => List.mem_cons_of_mem _ (List.mem_append_left _ (List.mem_append_right _ h)), List.mem_of_getElem? (i := 15) rfl, rfl, rfl, by decide +kernel, ⟨tyX1, tyX1_ok⟩, nmX1⟩
theorem pa_X1_init_46 : PA RX1 wsX1_init 46 1 10 "NineMowers$Course" (.object "NineMowers$Field") := by
  show _ ∧ _ ∧ _ ∧ _ ∧ _ ∧ _ ∧ _ ∧ _
  exact ⟨by decide +kernel, fun _ h => List.mem_cons_of_mem _ (List.mem_append_left _ (List.mem_append_right _ h)), List.mem_of_getElem? (i := 16) rfl, rfl, rfl, by decide +kernel, ⟨tyX1, tyX1_ok⟩, nmX1⟩
theorem pa_X1_init_50 : PA RX1 wsX1_init 50 1 11 "NineMowers$Course" .int := by
  show _ ∧ _ ∧ _ ∧ _ ∧ _ ∧ _ ∧ _ ∧ _
  exact ⟨by decide +kernel, fun _ h => List.mem_cons_of_mem _ (List.mem_append_left _ (List.mem_append_right _ h)), List.mem_of_getElem? (i := 17) rfl, rfl, rfl, by decide +kernel, ⟨tyX1, tyX1_ok⟩, nmX1⟩
theorem ki_X1_init_X5_init_55 {c s c2 s2 : Nat} : KI RX1 wsX1_init (rmr 2 c s) 55 yX5_init wsX5_init (rmr 1 c2 s2) 1 := ⟨_, _, _, gX1_init_X5_init, rfl, (List.mem_of_getElem? (i := 20) rfl), (List.mem_of_getElem? (i := 26) rfl), (List.mem_of_getElem? (i := 27) rfl), rfl, by decide +kernel, Nat.le_of_ble_eq_true rfl, Nat.le_of_ble_eq_true rfl⟩
theorem pf_X1_init_58 : PF RX1 wsX1_init 58 1 12 "NineMowers$Course" (.object "NineMowers$Numbers") := by
  show _ ∧ _ ∧ _ ∧ _ ∧ _ ∧ _ ∧ _ ∧ _ ∧ _
  exact ⟨by decide +kernel, fun _ h => List.mem_cons_of_mem _ (List.mem_append_left _ (List.mem_append_right _ h)), List.mem_of_getElem? (i := 21) rfl, rfl, rfl, rfl, by decide +kernel, ⟨tyX1, tyX1_ok⟩, nmX1⟩
theorem pf_X1_init_62 : PF RX1 wsX1_init 62 1 13 "NineMowers$Course" (.object "NineMowers$Numbers") := by
  show _ ∧ _ ∧ _ ∧ _ ∧ _ ∧ _ ∧ _ ∧ _ ∧ _
  exact ⟨by decide +kernel, fun _ h => List.mem_cons_of_mem _ (List.mem_append_left _ (List.mem_append_right _ h)), List.mem_of_getElem? (i := 22) rfl, rfl, rfl, rfl, by decide +kernel, ⟨tyX1, tyX1_ok⟩, nmX1⟩
theorem pf_X1_init_65 : PF RX1 wsX1_init 65 1 14 "NineMowers$Course" (.object "NineMowers$Numbers") := by
  show _ ∧ _ ∧ _ ∧ _ ∧ _ ∧ _ ∧ _ ∧ _ ∧ _
  exact ⟨by decide +kernel, fun _ h => List.mem_cons_of_mem _ (List.mem_append_left _ (List.mem_append_right _ h)), List.mem_of_getElem? (i := 23) rfl, rfl, rfl, rfl, by decide +kernel, ⟨tyX1, tyX1_ok⟩, nmX1⟩
theorem pf_X1_init_68 : PF RX1 wsX1_init 68 1 15 "NineMowers$Course" (.array .int) := by
  show _ ∧ _ ∧ _ ∧ _ ∧ _ ∧ _ ∧ _ ∧ _ ∧ _
  exact ⟨by decide +kernel, fun _ h => List.mem_cons_of_mem _ (List.mem_append_left _ (List.mem_append_right _ h)), List.mem_of_getElem? (i := 24) rfl, rfl, rfl, rfl, by decide +kernel, ⟨tyX1, tyX1_ok⟩, nmX1⟩
theorem pf_X1_init_71 : PF RX1 wsX1_init 71 1 16 "NineMowers$Course" (.array .int) := by
  show _ ∧ _ ∧ _ ∧ _ ∧ _ ∧ _ ∧ _ ∧ _ ∧ _
  exact ⟨by decide +kernel, fun _ h => List.mem_cons_of_mem _ (List.mem_append_left _ (List.mem_append_right _ h)), List.mem_of_getElem? (i := 25) rfl, rfl, rfl, rfl, by decide +kernel, ⟨tyX1, tyX1_ok⟩, nmX1⟩
set_option maxRecDepth 100000 in
set_option maxHeartbeats 8000000 in
theorem k_X1_init {l : Launch} {V : Vx} {h : Nat} {ω0 : RWd} (hU : UPV V) (hm : h ∈ ω0.1) (c0 : ω0.2 h = .inr (1, [.null, .int 0, .null, .int 0, .null, .null, .null, .null, .null, .int 0, .null, .int 0, .null, .null, .null, .null, .null])) : Kr l V yX1_init wsX1_init (rmr 2 15 (114)) 15 (114) [.ref h] ω0 (QRV V (CB V ω0 h)) := by
  refine Kr_of (by decide +kernel) rfl rfl (Nat.le_of_ble_eq_true rfl) (fun M hl hV hN C hI => ?_)
  subst hl
  subst hV
  replace hI := hI rfl
  have b0 := BT_0 hm
  show PR M 0 [(0, .ref h)] [] ω0 (0, 0)
  refine Z_aload_n C dX1_init_0 0 rfl ?_
  refine Z_objInit C (List.mem_of_getElem? (i := 1) rfl) (List.mem_of_getElem? (i := 2) rfl) (List.mem_of_getElem? (i := 3) rfl) (Nat.le_of_ble_eq_true rfl) (Nat.le_of_ble_eq_true rfl) dX1_init_1 ?_
  refine Z_aload_n C dX1_init_4 0 rfl ?_
  refine Z_bipush C dX1_init_5 (v := (6 : Int32)) (by decide +kernel) ?_
  refine Y_newq (t := 4) C hU b0 (fun U h => (hU U h).2.1) rfl (List.mem_of_getElem? (i := 4) rfl) (by decide +kernel) rfl (by decide +kernel) (Nat.le_of_ble_eq_true rfl) (Nat.le_of_ble_eq_true rfl) dX1_init_7 (fun q1 ω2 bZ eZ => ?_)
  have b3 := bZ
  clear bZ 
  have c4 := eZ.trans c0
  clear eZ
  show PR M 10 [(0, .ref h)] [.ref q1, .ref h] ω2 (1, 6)
  refine Y_putF C hI pf_X1_init_11 b3 c4 rfl rfl (Nat.le_of_ble_eq_true rfl) dX1_init_10 (fun ω5 bZ cZ => ?_)
  have b6 := bZ
  clear bZ b3
  have c7 : ω5.2 h = .inr (1, [.ref q1, .int 0, .null, .int 0, .null, .null, .null, .null, .null, .int 0, .null, .int 0, .null, .null, .null, .null, .null]) := cZ
  clear cZ
  refine Z_aload_n C dX1_init_13 0 rfl ?_
  refine Z_iconst C dX1_init_14 (v := (0 : Int32)) (by decide +kernel) ?_
  refine Y_put C pa_X1_init_17 b6 c7 rfl rfl (Nat.le_of_ble_eq_true rfl) dX1_init_15 (fun ω8 bZ cZ => ?_)
  have b9 := bZ
  clear bZ b6
  have c10 : ω8.2 h = .inr (1, [.ref q1, .int (0 : Int32), .null, .int 0, .null, .null, .null, .null, .null, .int 0, .null, .int 0, .null, .null, .null, .null, .null]) := cZ
  clear cZ
  refine Z_aload_n C dX1_init_18 0 rfl ?_
  refine Z_bipush C dX1_init_19 (v := (6 : Int32)) (by decide +kernel) ?_
  refine Y_newa (t := 0) (a0 := (6, .inl (fun _ => 0))) C hU b9 (List.mem_of_getElem? (i := 7) rfl) rfl rfl (fun _ _ q => q) (fun _ => rfl) (by decide +kernel) rfl (by decide +kernel) (Nat.le_of_ble_eq_true rfl) (Nat.le_of_ble_eq_true rfl) dX1_init_21 (fun q11 ω12 bZ eZ => ?_)
  have b13 := bZ
  clear bZ b9
  have cZ := eZ.trans c10
  have c14 := cZ
  clear cZ eZ
  show PR M 23 [(0, .ref h)] [.ref q11, .ref h] ω12 (2, 12)
  refine Y_putF C hI pf_X1_init_21 b13 c14 rfl rfl (Nat.le_of_ble_eq_true rfl) dX1_init_23 (fun ω15 bZ cZ => ?_)
  have b16 := bZ
  clear bZ b13
  have c17 : ω15.2 h = .inr (1, [.ref q1, .int (0 : Int32), .ref q11, .int 0, .null, .null, .null, .null, .null, .int 0, .null, .int 0, .null, .null, .null, .null, .null]) := cZ
  clear cZ
  refine Z_aload_n C dX1_init_26 0 rfl ?_
  refine Z_iconst C dX1_init_27 (v := (0 : Int32)) (by decide +kernel) ?_
  refine Y_put C pa_X1_init_25 b16 c17 rfl rfl (Nat.le_of_ble_eq_true rfl) dX1_init_28 (fun ω18 bZ cZ => ?_)
  have b19 := bZ
  clear bZ b16
  have c20 : ω18.2 h = .inr (1, [.ref q1, .int (0 : Int32), .ref q11, .int (0 : Int32), .null, .null, .null, .null, .null, .int 0, .null, .int 0, .null, .null, .null, .null, .null]) := cZ
  clear cZ
  refine Z_aload_n C dX1_init_31 0 rfl ?_
  refine Z_bipush C dX1_init_32 (v := (6 : Int32)) (by decide +kernel) ?_
  refine Y_newa (t := 0) (a0 := (6, .inl (fun _ => 0))) C hU b19 (List.mem_of_getElem? (i := 7) rfl) rfl rfl (fun _ _ q => q) (fun _ => rfl) (by decide +kernel) rfl (by decide +kernel) (Nat.le_of_ble_eq_true rfl) (Nat.le_of_ble_eq_true rfl) dX1_init_34 (fun q21 ω22 bZ eZ => ?_)
  have b23 := bZ
  clear bZ b19
  have cZ := eZ.trans c20
  have c24 := cZ
  clear cZ eZ
  show PR M 36 [(0, .ref h)] [.ref q21, .ref h] ω22 (3, 18)
  refine Y_putF C hI pf_X1_init_28 b23 c24 rfl rfl (Nat.le_of_ble_eq_true rfl) dX1_init_36 (fun ω25 bZ cZ => ?_)
  have b26 := bZ
  clear bZ b23
  have c27 : ω25.2 h = .inr (1, [.ref q1, .int (0 : Int32), .ref q11, .int (0 : Int32), .ref q21, .null, .null, .null, .null, .int 0, .null, .int 0, .null, .null, .null, .null, .null]) := cZ
  clear cZ
  refine Z_aload_n C dX1_init_39 0 rfl ?_
  refine Z_bipush C dX1_init_40 (v := (6 : Int32)) (by decide +kernel) ?_
  refine Y_newa (t := 0) (a0 := (6, .inl (fun _ => 0))) C hU b26 (List.mem_of_getElem? (i := 7) rfl) rfl rfl (fun _ _ q => q) (fun _ => rfl) (by decide +kernel) rfl (by decide +kernel) (Nat.le_of_ble_eq_true rfl) (Nat.le_of_ble_eq_true rfl) dX1_init_42 (fun q28 ω29 bZ eZ => ?_)
  have b30 := bZ
  clear bZ b26
  have cZ := eZ.trans c27
  have c31 := cZ
  clear cZ eZ
  show PR M 44 [(0, .ref h)] [.ref q28, .ref h] ω29 (4, 24)
  refine Y_putF C hI pf_X1_init_31 b30 c31 rfl rfl (Nat.le_of_ble_eq_true rfl) dX1_init_44 (fun ω32 bZ cZ => ?_)
  have b33 := bZ
  clear bZ b30
  have c34 : ω32.2 h = .inr (1, [.ref q1, .int (0 : Int32), .ref q11, .int (0 : Int32), .ref q21, .ref q28, .null, .null, .null, .int 0, .null, .int 0, .null, .null, .null, .null, .null]) := cZ
  clear cZ
  refine Z_aload_n C dX1_init_47 0 rfl ?_
  refine Z_bipush C dX1_init_48 (v := (6 : Int32)) (by decide +kernel) ?_
  refine Y_newa (t := 0) (a0 := (6, .inl (fun _ => 0))) C hU b33 (List.mem_of_getElem? (i := 7) rfl) rfl rfl (fun _ _ q => q) (fun _ => rfl) (by decide +kernel) rfl (by decide +kernel) (Nat.le_of_ble_eq_true rfl) (Nat.le_of_ble_eq_true rfl) dX1_init_50 (fun q35 ω36 bZ eZ => ?_)
  have b37 := bZ
  clear bZ b33
  have cZ := eZ.trans c34
  have c38 := cZ
  clear cZ eZ
  show PR M 52 [(0, .ref h)] [.ref q35, .ref h] ω36 (5, 30)
  refine Y_putF C hI pf_X1_init_34 b37 c38 rfl rfl (Nat.le_of_ble_eq_true rfl) dX1_init_52 (fun ω39 bZ cZ => ?_)
  have b40 := bZ
  clear bZ b37
  have c41 : ω39.2 h = .inr (1, [.ref q1, .int (0 : Int32), .ref q11, .int (0 : Int32), .ref q21, .ref q28, .ref q35, .null, .null, .int 0, .null, .int 0, .null, .null, .null, .null, .null]) := cZ
  clear cZ
  refine Z_aload_n C dX1_init_55 0 rfl ?_
  refine Z_bipush C dX1_init_56 (v := (6 : Int32)) (by decide +kernel) ?_
  refine Y_newa (t := 0) (a0 := (6, .inl (fun _ => 0))) C hU b40 (List.mem_of_getElem? (i := 7) rfl) rfl rfl (fun _ _ q => q) (fun _ => rfl) (by decide +kernel) rfl (by decide +kernel) (Nat.le_of_ble_eq_true rfl) (Nat.le_of_ble_eq_true rfl) dX1_init_58 (fun q42 ω43 bZ eZ => ?_)
  have b44 := bZ
  clear bZ b40
  have cZ := eZ.trans c41
  have c45 := cZ
  clear cZ eZ
  show PR M 60 [(0, .ref h)] [.ref q42, .ref h] ω43 (6, 36)
  refine Y_putF C hI pf_X1_init_37 b44 c45 rfl rfl (Nat.le_of_ble_eq_true rfl) dX1_init_60 (fun ω46 bZ cZ => ?_)
  have b47 := bZ
  clear bZ b44
  have c48 : ω46.2 h = .inr (1, [.ref q1, .int (0 : Int32), .ref q11, .int (0 : Int32), .ref q21, .ref q28, .ref q35, .ref q42, .null, .int 0, .null, .int 0, .null, .null, .null, .null, .null]) := cZ
  clear cZ
  refine Z_aload_n C dX1_init_63 0 rfl ?_
  refine Z_bipush C dX1_init_64 (v := (24 : Int32)) (by decide +kernel) ?_
  refine Y_newa (t := 0) (a0 := (24, .inl (fun _ => 0))) C hU b47 (List.mem_of_getElem? (i := 7) rfl) rfl rfl (fun _ _ q => q) (fun _ => rfl) (by decide +kernel) rfl (by decide +kernel) (Nat.le_of_ble_eq_true rfl) (Nat.le_of_ble_eq_true rfl) dX1_init_66 (fun q49 ω50 bZ eZ => ?_)
  have b51 := bZ
  clear bZ b47
  have cZ := eZ.trans c48
  have c52 := cZ
  clear cZ eZ
  show PR M 68 [(0, .ref h)] [.ref q49, .ref h] ω50 (7, 60)
  refine Y_putF C hI pf_X1_init_40 b51 c52 rfl rfl (Nat.le_of_ble_eq_true rfl) dX1_init_68 (fun ω53 bZ cZ => ?_)
  have b54 := bZ
  clear bZ b51
  have c55 : ω53.2 h = .inr (1, [.ref q1, .int (0 : Int32), .ref q11, .int (0 : Int32), .ref q21, .ref q28, .ref q35, .ref q42, .ref q49, .int 0, .null, .int 0, .null, .null, .null, .null, .null]) := cZ
  clear cZ
  refine Z_aload_n C dX1_init_71 0 rfl ?_
  refine Z_iconst C dX1_init_72 (v := (0 : Int32)) (by decide +kernel) ?_
  refine Y_put C pa_X1_init_43 b54 c55 rfl rfl (Nat.le_of_ble_eq_true rfl) dX1_init_73 (fun ω56 bZ cZ => ?_)
  have b57 := bZ
  clear bZ b54
  have c58 : ω56.2 h = .inr (1, [.ref q1, .int (0 : Int32), .ref q11, .int (0 : Int32), .ref q21, .ref q28, .ref q35, .ref q42, .ref q49, .int (0 : Int32), .null, .int 0, .null, .null, .null, .null, .null]) := cZ
  clear cZ
  refine Z_aload_n C dX1_init_76 0 rfl ?_
  refine Z_null C dX1_init_77 ?_
  refine Y_put C pa_X1_init_46 b57 c58 rfl rfl (Nat.le_of_ble_eq_true rfl) dX1_init_78 (fun ω59 bZ cZ => ?_)
  have b60 := bZ
  clear bZ b57
  have c61 : ω59.2 h = .inr (1, [.ref q1, .int (0 : Int32), .ref q11, .int (0 : Int32), .ref q21, .ref q28, .ref q35, .ref q42, .ref q49, .int (0 : Int32), .null, .int 0, .null, .null, .null, .null, .null]) := cZ
  clear cZ
  refine Z_aload_n C dX1_init_81 0 rfl ?_
  refine Z_iconst C dX1_init_82 (v := (-1 : Int32)) (by decide +kernel) ?_
  refine Y_put C pa_X1_init_50 b60 c61 rfl rfl (Nat.le_of_ble_eq_true rfl) dX1_init_83 (fun ω62 bZ cZ => ?_)
  have b63 := bZ
  clear bZ b60
  have c64 : ω62.2 h = .inr (1, [.ref q1, .int (0 : Int32), .ref q11, .int (0 : Int32), .ref q21, .ref q28, .ref q35, .ref q42, .ref q49, .int (0 : Int32), .null, .int (-1 : Int32), .null, .null, .null, .null, .null]) := cZ
  clear cZ
  refine Z_aload_n C dX1_init_86 0 rfl ?_
  refine Z_new (fs := [.null, .int 0]) C hU (ci := 5) rfl (fun _ h => List.mem_cons_of_mem _ (List.mem_append_right _ h)) tyX5_ok (List.mem_of_getElem? (i := 18) rfl) (List.mem_of_getElem? (i := 19) rfl) (List.mem_of_getElem? (i := 20) rfl) dfX5 (Nat.le_of_ble_eq_true rfl) (Nat.le_of_ble_eq_true rfl) dX1_init_87 (fun q65 hq65 => ?_)
  show PR M 90 [(0, .ref h)] [.ref q65, .ref h] (rnew ω62 q65 (.inr (5, [.null, .int 0]))) (8, 62)
  refine Z_dup C dX1_init_90 rfl ?_
  refine Z_bipush C dX1_init_91 (v := (18 : Int32)) (by decide +kernel) ?_
  refine Z_ci (rc0 := (rmr 1 (0 + 1) (0 + 18))) (Qk := NB (mV M) 18 (rnew ω62 q65 (.inr (5, [.null, .int 0]))) q65) (b := q65) (As := [.int (18 : Int32)]) C ki_X1_init_X5_init_55  rfl (Nat.le_of_ble_eq_true rfl) dX1_init_93 ⟨Nat.le_of_ble_eq_true rfl, Nat.le_of_ble_eq_true rfl⟩ (k_X5_init hU (List.mem_append_right _ (List.mem_singleton.mpr rfl)) (va_up_self _ _ _) (by decide +kernel) rfl (by decide +kernel)) (fun ω66 bZ => ?_)
  obtain ⟨q67, bZ, cZ⟩ := bZ
  obtain ⟨bZ, eZ⟩ := BT_call b63 hq65 bZ cZ
  have b68 := bZ
  clear bZ b63
  have c69 := eZ.trans c64
  clear cZ eZ
  show PR M 96 [(0, .ref h)] [.ref q65, .ref h] ω66 (9, 80)
  refine Y_putF C hI pf_X1_init_58 b68 c69 rfl rfl (Nat.le_of_ble_eq_true rfl) dX1_init_96 (fun ω70 bZ cZ => ?_)
  have b71 := bZ
  clear bZ b68
  have c72 : ω70.2 h = .inr (1, [.ref q1, .int (0 : Int32), .ref q11, .int (0 : Int32), .ref q21, .ref q28, .ref q35, .ref q42, .ref q49, .int (0 : Int32), .null, .int (-1 : Int32), .ref q65, .null, .null, .null, .null]) := cZ
  clear cZ
  refine Z_aload_n C dX1_init_99 0 rfl ?_
  refine Z_new (fs := [.null, .int 0]) C hU (ci := 5) rfl (fun _ h => List.mem_cons_of_mem _ (List.mem_append_right _ h)) tyX5_ok (List.mem_of_getElem? (i := 18) rfl) (List.mem_of_getElem? (i := 19) rfl) (List.mem_of_getElem? (i := 20) rfl) dfX5 (Nat.le_of_ble_eq_true rfl) (Nat.le_of_ble_eq_true rfl) dX1_init_100 (fun q73 hq73 => ?_)
  show PR M 103 [(0, .ref h)] [.ref q73, .ref h] (rnew ω70 q73 (.inr (5, [.null, .int 0]))) (10, 82)
  refine Z_dup C dX1_init_103 rfl ?_
  refine Z_bipush C dX1_init_104 (v := (10 : Int32)) (by decide +kernel) ?_
  refine Z_ci (rc0 := (rmr 1 (0 + 1) (0 + 10))) (Qk := NB (mV M) 10 (rnew ω70 q73 (.inr (5, [.null, .int 0]))) q73) (b := q73) (As := [.int (10 : Int32)]) C ki_X1_init_X5_init_55  rfl (Nat.le_of_ble_eq_true rfl) dX1_init_106 ⟨Nat.le_of_ble_eq_true rfl, Nat.le_of_ble_eq_true rfl⟩ (k_X5_init hU (List.mem_append_right _ (List.mem_singleton.mpr rfl)) (va_up_self _ _ _) (by decide +kernel) rfl (by decide +kernel)) (fun ω74 bZ => ?_)
  obtain ⟨q75, bZ, cZ⟩ := bZ
  obtain ⟨bZ, eZ⟩ := BT_call b71 hq73 bZ cZ
  have b76 := bZ
  clear bZ b71
  have c77 := eZ.trans c72
  clear cZ eZ
  show PR M 109 [(0, .ref h)] [.ref q73, .ref h] ω74 (11, 92)
  refine Y_putF C hI pf_X1_init_62 b76 c77 rfl rfl (Nat.le_of_ble_eq_true rfl) dX1_init_109 (fun ω78 bZ cZ => ?_)
  have b79 := bZ
  clear bZ b76
  have c80 : ω78.2 h = .inr (1, [.ref q1, .int (0 : Int32), .ref q11, .int (0 : Int32), .ref q21, .ref q28, .ref q35, .ref q42, .ref q49, .int (0 : Int32), .null, .int (-1 : Int32), .ref q65, .ref q73, .null, .null, .null]) := cZ
  clear cZ
  refine Z_aload_n C dX1_init_112 0 rfl ?_
  refine Z_new (fs := [.null, .int 0]) C hU (ci := 5) rfl (fun _ h => List.mem_cons_of_mem _ (List.mem_append_right _ h)) tyX5_ok (List.mem_of_getElem? (i := 18) rfl) (List.mem_of_getElem? (i := 19) rfl) (List.mem_of_getElem? (i := 20) rfl) dfX5 (Nat.le_of_ble_eq_true rfl) (Nat.le_of_ble_eq_true rfl) dX1_init_113 (fun q81 hq81 => ?_)
  show PR M 116 [(0, .ref h)] [.ref q81, .ref h] (rnew ω78 q81 (.inr (5, [.null, .int 0]))) (12, 94)
  refine Z_dup C dX1_init_116 rfl ?_
  refine Z_bipush C dX1_init_117 (v := (8 : Int32)) (by decide +kernel) ?_
  refine Z_ci (rc0 := (rmr 1 (0 + 1) (0 + 8))) (Qk := NB (mV M) 8 (rnew ω78 q81 (.inr (5, [.null, .int 0]))) q81) (b := q81) (As := [.int (8 : Int32)]) C ki_X1_init_X5_init_55  rfl (Nat.le_of_ble_eq_true rfl) dX1_init_119 ⟨Nat.le_of_ble_eq_true rfl, Nat.le_of_ble_eq_true rfl⟩ (k_X5_init hU (List.mem_append_right _ (List.mem_singleton.mpr rfl)) (va_up_self _ _ _) (by decide +kernel) rfl (by decide +kernel)) (fun ω82 bZ => ?_)
  obtain ⟨q83, bZ, cZ⟩ := bZ
  obtain ⟨bZ, eZ⟩ := BT_call b79 hq81 bZ cZ
  have b84 := bZ
  clear bZ b79
  have c85 := eZ.trans c80
  clear cZ eZ
  show PR M 122 [(0, .ref h)] [.ref q81, .ref h] ω82 (13, 102)
  refine Y_putF C hI pf_X1_init_65 b84 c85 rfl rfl (Nat.le_of_ble_eq_true rfl) dX1_init_122 (fun ω86 bZ cZ => ?_)
  have b87 := bZ
  clear bZ b84
  have c88 : ω86.2 h = .inr (1, [.ref q1, .int (0 : Int32), .ref q11, .int (0 : Int32), .ref q21, .ref q28, .ref q35, .ref q42, .ref q49, .int (0 : Int32), .null, .int (-1 : Int32), .ref q65, .ref q73, .ref q81, .null, .null]) := cZ
  clear cZ
  refine Z_aload_n C dX1_init_125 0 rfl ?_
  refine Z_bipush C dX1_init_126 (v := (6 : Int32)) (by decide +kernel) ?_
  refine Y_newa (t := 0) (a0 := (6, .inl (fun _ => 0))) C hU b87 (List.mem_of_getElem? (i := 7) rfl) rfl rfl (fun _ _ q => q) (fun _ => rfl) (by decide +kernel) rfl (by decide +kernel) (Nat.le_of_ble_eq_true rfl) (Nat.le_of_ble_eq_true rfl) dX1_init_128 (fun q89 ω90 bZ eZ => ?_)
  have b91 := bZ
  clear bZ b87
  have cZ := eZ.trans c88
  have c92 := cZ
  clear cZ eZ
  show PR M 130 [(0, .ref h)] [.ref q89, .ref h] ω90 (14, 108)
  refine Y_putF C hI pf_X1_init_68 b91 c92 rfl rfl (Nat.le_of_ble_eq_true rfl) dX1_init_130 (fun ω93 bZ cZ => ?_)
  have b94 := bZ
  clear bZ b91
  have c95 : ω93.2 h = .inr (1, [.ref q1, .int (0 : Int32), .ref q11, .int (0 : Int32), .ref q21, .ref q28, .ref q35, .ref q42, .ref q49, .int (0 : Int32), .null, .int (-1 : Int32), .ref q65, .ref q73, .ref q81, .ref q89, .null]) := cZ
  clear cZ
  refine Z_aload_n C dX1_init_133 0 rfl ?_
  refine Z_bipush C dX1_init_134 (v := (6 : Int32)) (by decide +kernel) ?_
  refine Y_newa (t := 0) (a0 := (6, .inl (fun _ => 0))) C hU b94 (List.mem_of_getElem? (i := 7) rfl) rfl rfl (fun _ _ q => q) (fun _ => rfl) (by decide +kernel) rfl (by decide +kernel) (Nat.le_of_ble_eq_true rfl) (Nat.le_of_ble_eq_true rfl) dX1_init_136 (fun q96 ω97 bZ eZ => ?_)
  have b98 := bZ
  clear bZ b94
  have cZ := eZ.trans c95
  have c99 := cZ
  clear cZ eZ
  show PR M 138 [(0, .ref h)] [.ref q96, .ref h] ω97 (15, 114)
  refine Y_putF C hI pf_X1_init_71 b98 c99 rfl rfl (Nat.le_of_ble_eq_true rfl) dX1_init_138 (fun ω100 bZ cZ => ?_)
  have b101 := bZ
  clear bZ b98
  have c102 : ω100.2 h = .inr (1, [.ref q1, .int (0 : Int32), .ref q11, .int (0 : Int32), .ref q21, .ref q28, .ref q35, .ref q42, .ref q49, .int (0 : Int32), .null, .int (-1 : Int32), .ref q65, .ref q73, .ref q81, .ref q89, .ref q96]) := cZ
  clear cZ
  exact Z_vret C dX1_init_141 ⟨q1, q11, q21, q28, q35, q42, q49, q65, q67, q73, q75, q81, q83, q89, q96, b101, c102⟩
noncomputable def XB (V : Vx) (ω0 : RWd) (h : Nat) (ω : RWd) : Prop := ∃ q1 q3 q4 q5 q6 q7 q8 q9 q10 q11 q12 q13 q14 q15 q16 q17 q23 q25 q26 q27 q28 q29 q30 q31 q32 q33 q34 q35 q36 q37 q38 q39 q45 q47 q48 q49 q50 q51 q52 q53 q54 q55 q56 q57 q58 q59 q60 q61 q70 q80 q90 q97 q99 q105 q112 q119 q126 q128 q129 q130 q131 q143 q145 q151 q153 q159 q161 q167 q169 q175 q177 q183 q185 : Nat, BT ω0 ω h [(q1, .inr (1, [.ref q3, .int (0 : Int32), .ref q4, .int (0 : Int32), .ref q5, .ref q6, .ref q7, .ref q8, .ref q9, .int (0 : Int32), .ref q126, .int (-1 : Int32), .ref q10, .ref q12, .ref q14, .ref q16, .ref q17])), (q3, .inl (vC V 4, 6, .inr (.inr (.inr (.inr (fun _ => none)))))), (q4, .inl (vC V 0, (6, .inl (fun _ => 0)))), (q5, .inl (vC V 0, (6, .inl (fun _ => 0)))), (q6, .inl (vC V 0, (6, .inl (fun _ => 0)))), (q7, .inl (vC V 0, (6, .inl (fun _ => 0)))), (q8, .inl (vC V 0, (6, .inl (fun _ => 0)))), (q9, .inl (vC V 0, (24, .inl (fun _ => 0)))), (q10, .inr (5, [.ref q11, .int (0 : Int32)])), (q11, .inl (vC V 0, (18, .inl (fun _ => 0)))), (q12, .inr (5, [.ref q13, .int (0 : Int32)])), (q13, .inl (vC V 0, (10, .inl (fun _ => 0)))), (q14, .inr (5, [.ref q15, .int (0 : Int32)])), (q15, .inl (vC V 0, (8, .inl (fun _ => 0)))), (q16, .inl (vC V 0, (6, .inl (fun _ => 0)))), (q17, .inl (vC V 0, (6, .inl (fun _ => 0)))), (q23, .inr (1, [.ref q25, .int (0 : Int32), .ref q26, .int (0 : Int32), .ref q27, .ref q28, .ref q29, .ref q30, .ref q31, .int (0 : Int32), .ref q126, .int (-1 : Int32), .ref q32, .ref q34, .ref q36, .ref q38, .ref q39])), (q25, .inl (vC V 4, 6, .inr (.inr (.inr (.inr (fun _ => none)))))), (q26, .inl (vC V 0, (6, .inl (fun _ => 0)))), (q27, .inl (vC V 0, (6, .inl (fun _ => 0)))), (q28, .inl (vC V 0, (6, .inl (fun _ => 0)))), (q29, .inl (vC V 0, (6, .inl (fun _ => 0)))), (q30, .inl (vC V 0, (6, .inl (fun _ => 0)))), (q31, .inl (vC V 0, (24, .inl (fun _ => 0)))), (q32, .inr (5, [.ref q33, .int (0 : Int32)])), (q33, .inl (vC V 0, (18, .inl (fun _ => 0)))), (q34, .inr (5, [.ref q35, .int (0 : Int32)])), (q35, .inl (vC V 0, (10, .inl (fun _ => 0)))), (q36, .inr (5, [.ref q37, .int (0 : Int32)])), (q37, .inl (vC V 0, (8, .inl (fun _ => 0)))), (q38, .inl (vC V 0, (6, .inl (fun _ => 0)))), (q39, .inl (vC V 0, (6, .inl (fun _ => 0)))), (q45, .inr (1, [.ref q47, .int (0 : Int32), .ref q48, .int (0 : Int32), .ref q49, .ref q50, .ref q51, .ref q52, .ref q53, .int (0 : Int32), .ref q126, .int (-1 : Int32), .ref q54, .ref q56, .ref q58, .ref q60, .ref q61])), (q47, .inl (vC V 4, 6, .inr (.inr (.inr (.inr (fun _ => none)))))), (q48, .inl (vC V 0, (6, .inl (fun _ => 0)))), (q49, .inl (vC V 0, (6, .inl (fun _ => 0)))), (q50, .inl (vC V 0, (6, .inl (fun _ => 0)))), (q51, .inl (vC V 0, (6, .inl (fun _ => 0)))), (q52, .inl (vC V 0, (6, .inl (fun _ => 0)))), (q53, .inl (vC V 0, (24, .inl (fun _ => 0)))), (q54, .inr (5, [.ref q55, .int (0 : Int32)])), (q55, .inl (vC V 0, (18, .inl (fun _ => 0)))), (q56, .inr (5, [.ref q57, .int (0 : Int32)])), (q57, .inl (vC V 0, (10, .inl (fun _ => 0)))), (q58, .inr (5, [.ref q59, .int (0 : Int32)])), (q59, .inl (vC V 0, (8, .inl (fun _ => 0)))), (q60, .inl (vC V 0, (6, .inl (fun _ => 0)))), (q61, .inl (vC V 0, (6, .inl (fun _ => 0)))), (q70, .inl (vC V 5, 6, .inr (.inr (.inr (.inr (fun _ => none)))))), (q80, .inl (vC V 1, (100, .inl (fun _ => 0)))), (q90, .inl (vC V 6, 6, .inr (.inr (.inr (.inr (va_up (va_up (va_up (va_up (va_up (va_up (fun _ => none) 0 (some q143)) 1 (some q151)) 2 (some q159)) 3 (some q167)) 4 (some q175)) 5 (some q183))))))), (q97, .inr (5, [.ref q99, .int (0 : Int32)])), (q99, .inl (vC V 0, (20, .inl (fun _ => 0)))), (q105, .inl (vC V 0, (5, .inl (fun _ => 0)))), (q112, .inl (vC V 0, (5, .inl (fun _ => 0)))), (q119, .inl (vC V 0, (6, .inl (fun _ => 0)))), (q126, .inr (2, [.int (2 : Int32), .int (1 : Int32), .int (60 : Int32), .ref q128, .int (0 : Int32), .ref q129, .ref q130, .ref q131, .int (0 : Int32), .null, .int (0 : Int32), .int (0 : Int32)])), (q128, .inl (vC V 0, (100, .inl (fun _ => 0)))), (q129, .inl (vC V 0, (10, .inl (fun _ => 0)))), (q130, .inl (vC V 0, (10, .inl (fun _ => 0)))), (q131, .inl (vC V 0, (10, .inl (fun _ => 0)))), (q143, .inr (9, [.ref q145, .int (-1 : Int32), .int (0 : Int32)])), (q145, .inl (vC V 3, (60, .inr (.inl (fun _ => 0))))), (q151, .inr (9, [.ref q153, .int (-1 : Int32), .int (0 : Int32)])), (q153, .inl (vC V 3, (60, .inr (.inl (fun _ => 0))))), (q159, .inr (9, [.ref q161, .int (-1 : Int32), .int (0 : Int32)])), (q161, .inl (vC V 3, (60, .inr (.inl (fun _ => 0))))), (q167, .inr (9, [.ref q169, .int (-1 : Int32), .int (0 : Int32)])), (q169, .inl (vC V 3, (60, .inr (.inl (fun _ => 0))))), (q175, .inr (9, [.ref q177, .int (-1 : Int32), .int (0 : Int32)])), (q177, .inl (vC V 3, (60, .inr (.inl (fun _ => 0))))), (q183, .inr (9, [.ref q185, .int (-1 : Int32), .int (0 : Int32)])), (q185, .inl (vC V 3, (60, .inr (.inl (fun _ => 0)))))] ∧ ω.2 h = .inr (11, [.ref q1, .ref q23, .ref q45, .int (0 : Int32), .ref q70, .int (0 : Int32), .ref q80, .int (0 : Int32), .ref q90, .ref q97, .ref q105, .ref q112, .ref q119])
theorem ki_X11_init_X1_init_11 {c s c2 s2 : Nat} : KIN wsX11_init (rmr 3 c s) yX1_init wsX1_init (rmr 2 c2 s2) 0 := ⟨_, _, _, gX11_init_X1_init_n11, rfl, (List.mem_of_getElem? (i := 6) rfl), (List.mem_of_getElem? (i := 32) rfl), rfl, by decide +kernel, Nat.le_of_ble_eq_true rfl, Nat.le_of_ble_eq_true rfl⟩
theorem pf_X11_init_12 : PF RX11 wsX11_init 12 11 0 "NineMowers" (.object "NineMowers$Course") := by
  show _ ∧ _ ∧ _ ∧ _ ∧ _ ∧ _ ∧ _ ∧ _ ∧ _
  exact ⟨by decide +kernel, fun _ h => List.mem_cons_of_mem _ (List.mem_append_left _ (List.mem_append_left _ (List.mem_append_left _ (List.mem_append_right _ h)))), List.mem_of_getElem? (i := 7) rfl, rfl, rfl, rfl, by decide +kernel, ⟨tyX11, tyX11_ok⟩, nmX11⟩
theorem pf_X11_init_18 : PF RX11 wsX11_init 18 11 1 "NineMowers" (.object "NineMowers$Course") := by
  show _ ∧ _ ∧ _ ∧ _ ∧ _ ∧ _ ∧ _ ∧ _ ∧ _
  exact ⟨by decide +kernel, fun _ h => List.mem_cons_of_mem _ (List.mem_append_left _ (List.mem_append_left _ (List.mem_append_left _ (List.mem_append_right _ h)))), List.mem_of_getElem? (i := 8) rfl, rfl, rfl, rfl, by decide +kernel, ⟨tyX11, tyX11_ok⟩, nmX11⟩
theorem pf_X11_init_21 : PF RX11 wsX11_init 21 11 2 "NineMowers" (.object "NineMowers$Course") := by
  show _ ∧ _ ∧ _ ∧ _ ∧ _ ∧ _ ∧ _ ∧ _ ∧ _
  exact ⟨by decide +kernel, fun _ h => List.mem_cons_of_mem _ (List.mem_append_left _ (List.mem_append_left _ (List.mem_append_left _ (List.mem_append_right _ h)))), List.mem_of_getElem? (i := 9) rfl, rfl, rfl, rfl, by decide +kernel, ⟨tyX11, tyX11_ok⟩, nmX11⟩
theorem pa_X11_init_24 : PA RX11 wsX11_init 24 11 3 "NineMowers" .boolean := by
  show _ ∧ _ ∧ _ ∧ _ ∧ _ ∧ _ ∧ _ ∧ _
  exact ⟨by decide +kernel, fun _ h => List.mem_cons_of_mem _ (List.mem_append_left _ (List.mem_append_left _ (List.mem_append_left _ (List.mem_append_right _ h)))), List.mem_of_getElem? (i := 10) rfl, rfl, rfl, by decide +kernel, ⟨tyX11, tyX11_ok⟩, nmX11⟩
theorem pf_X11_init_30 : PF RX11 wsX11_init 30 11 4 "NineMowers" (.array (.object "NineMowers$Field")) := by
  show _ ∧ _ ∧ _ ∧ _ ∧ _ ∧ _ ∧ _ ∧ _ ∧ _
  exact ⟨by decide +kernel, fun _ h => List.mem_cons_of_mem _ (List.mem_append_left _ (List.mem_append_left _ (List.mem_append_left _ (List.mem_append_right _ h)))), List.mem_of_getElem? (i := 12) rfl, rfl, rfl, rfl, by decide +kernel, ⟨tyX11, tyX11_ok⟩, nmX11⟩
theorem pa_X11_init_34 : PA RX11 wsX11_init 34 11 5 "NineMowers" .int := by
  show _ ∧ _ ∧ _ ∧ _ ∧ _ ∧ _ ∧ _ ∧ _
  exact ⟨by decide +kernel, fun _ h => List.mem_cons_of_mem _ (List.mem_append_left _ (List.mem_append_left _ (List.mem_append_left _ (List.mem_append_right _ h)))), List.mem_of_getElem? (i := 13) rfl, rfl, rfl, by decide +kernel, ⟨tyX11, tyX11_ok⟩, nmX11⟩
theorem pf_X11_init_38 : PF RX11 wsX11_init 38 11 6 "NineMowers" (.array .byte) := by
  show _ ∧ _ ∧ _ ∧ _ ∧ _ ∧ _ ∧ _ ∧ _ ∧ _
  exact ⟨by decide +kernel, fun _ h => List.mem_cons_of_mem _ (List.mem_append_left _ (List.mem_append_left _ (List.mem_append_left _ (List.mem_append_right _ h)))), List.mem_of_getElem? (i := 15) rfl, rfl, rfl, rfl, by decide +kernel, ⟨tyX11, tyX11_ok⟩, nmX11⟩
theorem pa_X11_init_42 : PA RX11 wsX11_init 42 11 7 "NineMowers" .int := by
  show _ ∧ _ ∧ _ ∧ _ ∧ _ ∧ _ ∧ _ ∧ _
  exact ⟨by decide +kernel, fun _ h => List.mem_cons_of_mem _ (List.mem_append_left _ (List.mem_append_left _ (List.mem_append_left _ (List.mem_append_right _ h)))), List.mem_of_getElem? (i := 16) rfl, rfl, rfl, by decide +kernel, ⟨tyX11, tyX11_ok⟩, nmX11⟩
theorem pf_X11_init_47 : PF RX11 wsX11_init 47 11 8 "NineMowers" (.array (.object "NineMowers$Tape")) := by
  show _ ∧ _ ∧ _ ∧ _ ∧ _ ∧ _ ∧ _ ∧ _ ∧ _
  exact ⟨by decide +kernel, fun _ h => List.mem_cons_of_mem _ (List.mem_append_left _ (List.mem_append_left _ (List.mem_append_left _ (List.mem_append_right _ h)))), List.mem_of_getElem? (i := 18) rfl, rfl, rfl, rfl, by decide +kernel, ⟨tyX11, tyX11_ok⟩, nmX11⟩
theorem ki_X11_init_X5_init_53 {c s c2 s2 : Nat} : KI RX11 wsX11_init (rmr 3 c s) 53 yX5_init wsX5_init (rmr 1 c2 s2) 1 := ⟨_, _, _, gX11_init_X5_init, rfl, (List.mem_of_getElem? (i := 21) rfl), (List.mem_of_getElem? (i := 60) rfl), (List.mem_of_getElem? (i := 55) rfl), rfl, by decide +kernel, Nat.le_of_ble_eq_true rfl, Nat.le_of_ble_eq_true rfl⟩
theorem pf_X11_init_56 : PF RX11 wsX11_init 56 11 9 "NineMowers" (.object "NineMowers$Numbers") := by
  show _ ∧ _ ∧ _ ∧ _ ∧ _ ∧ _ ∧ _ ∧ _ ∧ _
  exact ⟨by decide +kernel, fun _ h => List.mem_cons_of_mem _ (List.mem_append_left _ (List.mem_append_left _ (List.mem_append_left _ (List.mem_append_right _ h)))), List.mem_of_getElem? (i := 22) rfl, rfl, rfl, rfl, by decide +kernel, ⟨tyX11, tyX11_ok⟩, nmX11⟩
theorem pf_X11_init_60 : PF RX11 wsX11_init 60 11 10 "NineMowers" (.array .int) := by
  show _ ∧ _ ∧ _ ∧ _ ∧ _ ∧ _ ∧ _ ∧ _ ∧ _
  exact ⟨by decide +kernel, fun _ h => List.mem_cons_of_mem _ (List.mem_append_left _ (List.mem_append_left _ (List.mem_append_left _ (List.mem_append_right _ h)))), List.mem_of_getElem? (i := 24) rfl, rfl, rfl, rfl, by decide +kernel, ⟨tyX11, tyX11_ok⟩, nmX11⟩
theorem pf_X11_init_64 : PF RX11 wsX11_init 64 11 11 "NineMowers" (.array .int) := by
  show _ ∧ _ ∧ _ ∧ _ ∧ _ ∧ _ ∧ _ ∧ _ ∧ _
  exact ⟨by decide +kernel, fun _ h => List.mem_cons_of_mem _ (List.mem_append_left _ (List.mem_append_left _ (List.mem_append_left _ (List.mem_append_right _ h)))), List.mem_of_getElem? (i := 25) rfl, rfl, rfl, rfl, by decide +kernel, ⟨tyX11, tyX11_ok⟩, nmX11⟩
theorem pf_X11_init_67 : PF RX11 wsX11_init 67 11 12 "NineMowers" (.array .int) := by
  show _ ∧ _ ∧ _ ∧ _ ∧ _ ∧ _ ∧ _ ∧ _ ∧ _
  exact ⟨by decide +kernel, fun _ h => List.mem_cons_of_mem _ (List.mem_append_left _ (List.mem_append_left _ (List.mem_append_left _ (List.mem_append_right _ h)))), List.mem_of_getElem? (i := 26) rfl, rfl, rfl, rfl, by decide +kernel, ⟨tyX11, tyX11_ok⟩, nmX11⟩
theorem ki_X11_init_X2_init_70 {c s c2 s2 : Nat} : KIN wsX11_init (rmr 3 c s) yX2_init wsX2_init (rmr 1 c2 s2) 0 := ⟨_, _, _, gX11_init_X2_init_n70, rfl, (List.mem_of_getElem? (i := 28) rfl), (List.mem_of_getElem? (i := 61) rfl), rfl, by decide +kernel, Nat.le_of_ble_eq_true rfl, Nat.le_of_ble_eq_true rfl⟩
theorem fa_X11_init_12 : FA RX11 wsX11_init 12 11 0 "NineMowers" := by
  show _ ∧ _ ∧ _ ∧ _
  exact ⟨by decide +kernel, fun _ h => List.mem_cons_of_mem _ (List.mem_append_left _ (List.mem_append_left _ (List.mem_append_left _ (List.mem_append_right _ h)))), List.mem_of_getElem? (i := 7) rfl, Or.inl rfl⟩
theorem pa_X11_init_71 : PA RX11 wsX11_init 71 1 10 "NineMowers$Course" (.object "NineMowers$Field") := by
  show _ ∧ _ ∧ _ ∧ _ ∧ _ ∧ _ ∧ _ ∧ _
  exact ⟨by decide +kernel, fun _ h => List.mem_cons_of_mem _ (List.mem_append_left _ (List.mem_append_left _ (List.mem_append_left _ (List.mem_append_left _ (List.mem_append_right _ h))))), List.mem_of_getElem? (i := 29) rfl, rfl, rfl, by decide +kernel, ⟨tyX1, tyX1_ok⟩, nmX1⟩
theorem fa_X11_init_18 : FA RX11 wsX11_init 18 11 1 "NineMowers" := by
  show _ ∧ _ ∧ _ ∧ _
  exact ⟨by decide +kernel, fun _ h => List.mem_cons_of_mem _ (List.mem_append_left _ (List.mem_append_left _ (List.mem_append_left _ (List.mem_append_right _ h)))), List.mem_of_getElem? (i := 8) rfl, Or.inl rfl⟩
theorem fa_X11_init_21 : FA RX11 wsX11_init 21 11 2 "NineMowers" := by
  show _ ∧ _ ∧ _ ∧ _
  exact ⟨by decide +kernel, fun _ h => List.mem_cons_of_mem _ (List.mem_append_left _ (List.mem_append_left _ (List.mem_append_left _ (List.mem_append_right _ h)))), List.mem_of_getElem? (i := 9) rfl, Or.inl rfl⟩
theorem fa_X11_init_47 : FA RX11 wsX11_init 47 11 8 "NineMowers" := by
  show _ ∧ _ ∧ _ ∧ _
  exact ⟨by decide +kernel, fun _ h => List.mem_cons_of_mem _ (List.mem_append_left _ (List.mem_append_left _ (List.mem_append_left _ (List.mem_append_right _ h)))), List.mem_of_getElem? (i := 18) rfl, Or.inl rfl⟩
theorem ki_X11_init_X9_init_75 {c s c2 s2 : Nat} : KIN wsX11_init (rmr 3 c s) yX9_init wsX9_init (rmr 1 c2 s2) 0 := ⟨_, _, _, gX11_init_X9_init_n75, rfl, (List.mem_of_getElem? (i := 31) rfl), (List.mem_of_getElem? (i := 76) rfl), rfl, by decide +kernel, Nat.le_of_ble_eq_true rfl, Nat.le_of_ble_eq_true rfl⟩
set_option maxRecDepth 100000 in
set_option maxHeartbeats 8000000 in
theorem k_X11_init {l : Launch} {V : Vx} {h : Nat} {ω0 : RWd} (hU : UPV V) (hm : h ∈ ω0.1) (c0 : ω0.2 h = .inr (11, [.null, .null, .null, .int 0, .null, .int 0, .null, .int 0, .null, .null, .null, .null, .null])) : KrN l V yX11_init wsX11_init (rmr 3 73 (1063)) 73 (1063) [.ref h] ω0 (QRV V (XB V ω0 h)) := by
  refine KrN_of (by decide +kernel) rfl rfl (Nat.le_of_ble_eq_true rfl) (fun M hl hV hN C hNW hI => ?_)
  subst hl
  subst hV
  replace hI := hI rfl
  have b0 := BT_0 hm
  show PR M 0 [(0, .ref h)] [] ω0 (0, 0)
  refine Z_aload_n C dX11_init_0 0 rfl ?_
  refine Z_objInit C (List.mem_of_getElem? (i := 1) rfl) (List.mem_of_getElem? (i := 2) rfl) (List.mem_of_getElem? (i := 3) rfl) (Nat.le_of_ble_eq_true rfl) (Nat.le_of_ble_eq_true rfl) dX11_init_1 ?_
  refine Z_aload_n C dX11_init_4 0 rfl ?_
  refine Z_new (fs := [.null, .int 0, .null, .int 0, .null, .null, .null, .null, .null, .int 0, .null, .int 0, .null, .null, .null, .null, .null]) C hU (ci := 1) rfl (fun _ h => List.mem_cons_of_mem _ (List.mem_append_left _ (List.mem_append_left _ (List.mem_append_left _ (List.mem_append_left _ (List.mem_append_right _ h)))))) tyX1_ok (List.mem_of_getElem? (i := 4) rfl) (List.mem_of_getElem? (i := 5) rfl) (List.mem_of_getElem? (i := 6) rfl) dfX1 (Nat.le_of_ble_eq_true rfl) (Nat.le_of_ble_eq_true rfl) dX11_init_5 (fun q1 hq1 => ?_)
  show PR M 8 [(0, .ref h)] [.ref q1, .ref h] (rnew ω0 q1 (.inr (1, [.null, .int 0, .null, .int 0, .null, .null, .null, .null, .null, .int 0, .null, .int 0, .null, .null, .null, .null, .null]))) (1, 17)
  refine Z_dup C dX11_init_8 rfl ?_
  refine Z_ciN (rc0 := (rmr 2 15 (114))) (Qk := CB (mV M) (rnew ω0 q1 (.inr (1, [.null, .int 0, .null, .int 0, .null, .null, .null, .null, .null, .int 0, .null, .int 0, .null, .null, .null, .null, .null]))) q1) (b := q1) (As := []) C ki_X11_init_X1_init_11 (fun h9 => h9.1) hNW rfl (Nat.le_of_ble_eq_true rfl) dX11_init_9 ⟨Nat.le_of_ble_eq_true rfl, Nat.le_of_ble_eq_true rfl⟩ (k_X1_init hU (List.mem_append_right _ (List.mem_singleton.mpr rfl)) (va_up_self _ _ _) ) (fun ω2 bZ => ?_)
  obtain ⟨q3, q4, q5, q6, q7, q8, q9, q10, q11, q12, q13, q14, q15, q16, q17, bZ, cZ⟩ := bZ
  obtain ⟨bZ, eZ⟩ := BT_call b0 hq1 bZ cZ
  have b18 := bZ
  clear bZ 
  have c19 := eZ.trans c0
  clear cZ eZ
  show PR M 12 [(0, .ref h)] [.ref q1, .ref h] ω2 (16, 131)
  refine Y_putF C hI pf_X11_init_12 b18 c19 rfl rfl (Nat.le_of_ble_eq_true rfl) dX11_init_12 (fun ω20 bZ cZ => ?_)
  have b21 := bZ
  clear bZ b18
  have c22 : ω20.2 h = .inr (11, [.ref q1, .null, .null, .int 0, .null, .int 0, .null, .int 0, .null, .null, .null, .null, .null]) := cZ
  clear cZ
  refine Z_aload_n C dX11_init_15 0 rfl ?_
  refine Z_new (fs := [.null, .int 0, .null, .int 0, .null, .null, .null, .null, .null, .int 0, .null, .int 0, .null, .null, .null, .null, .null]) C hU (ci := 1) rfl (fun _ h => List.mem_cons_of_mem _ (List.mem_append_left _ (List.mem_append_left _ (List.mem_append_left _ (List.mem_append_left _ (List.mem_append_right _ h)))))) tyX1_ok (List.mem_of_getElem? (i := 4) rfl) (List.mem_of_getElem? (i := 5) rfl) (List.mem_of_getElem? (i := 6) rfl) dfX1 (Nat.le_of_ble_eq_true rfl) (Nat.le_of_ble_eq_true rfl) dX11_init_16 (fun q23 hq23 => ?_)
  show PR M 19 [(0, .ref h)] [.ref q23, .ref h] (rnew ω20 q23 (.inr (1, [.null, .int 0, .null, .int 0, .null, .null, .null, .null, .null, .int 0, .null, .int 0, .null, .null, .null, .null, .null]))) (17, 148)
  refine Z_dup C dX11_init_19 rfl ?_
  refine Z_ciN (rc0 := (rmr 2 15 (114))) (Qk := CB (mV M) (rnew ω20 q23 (.inr (1, [.null, .int 0, .null, .int 0, .null, .null, .null, .null, .null, .int 0, .null, .int 0, .null, .null, .null, .null, .null]))) q23) (b := q23) (As := []) C ki_X11_init_X1_init_11 (fun h9 => h9.1) hNW rfl (Nat.le_of_ble_eq_true rfl) dX11_init_20 ⟨Nat.le_of_ble_eq_true rfl, Nat.le_of_ble_eq_true rfl⟩ (k_X1_init hU (List.mem_append_right _ (List.mem_singleton.mpr rfl)) (va_up_self _ _ _) ) (fun ω24 bZ => ?_)
  obtain ⟨q25, q26, q27, q28, q29, q30, q31, q32, q33, q34, q35, q36, q37, q38, q39, bZ, cZ⟩ := bZ
  obtain ⟨bZ, eZ⟩ := BT_call b21 hq23 bZ cZ
  have b40 := bZ
  clear bZ b21
  have c41 := eZ.trans c22
  clear cZ eZ
  show PR M 23 [(0, .ref h)] [.ref q23, .ref h] ω24 (32, 262)
  refine Y_putF C hI pf_X11_init_18 b40 c41 rfl rfl (Nat.le_of_ble_eq_true rfl) dX11_init_23 (fun ω42 bZ cZ => ?_)
  have b43 := bZ
  clear bZ b40
  have c44 : ω42.2 h = .inr (11, [.ref q1, .ref q23, .null, .int 0, .null, .int 0, .null, .int 0, .null, .null, .null, .null, .null]) := cZ
  clear cZ
  refine Z_aload_n C dX11_init_26 0 rfl ?_
  refine Z_new (fs := [.null, .int 0, .null, .int 0, .null, .null, .null, .null, .null, .int 0, .null, .int 0, .null, .null, .null, .null, .null]) C hU (ci := 1) rfl (fun _ h => List.mem_cons_of_mem _ (List.mem_append_left _ (List.mem_append_left _ (List.mem_append_left _ (List.mem_append_left _ (List.mem_append_right _ h)))))) tyX1_ok (List.mem_of_getElem? (i := 4) rfl) (List.mem_of_getElem? (i := 5) rfl) (List.mem_of_getElem? (i := 6) rfl) dfX1 (Nat.le_of_ble_eq_true rfl) (Nat.le_of_ble_eq_true rfl) dX11_init_27 (fun q45 hq45 => ?_)
  show PR M 30 [(0, .ref h)] [.ref q45, .ref h] (rnew ω42 q45 (.inr (1, [.null, .int 0, .null, .int 0, .null, .null, .null, .null, .null, .int 0, .null, .int 0, .null, .null, .null, .null, .null]))) (33, 279)
  refine Z_dup C dX11_init_30 rfl ?_
  refine Z_ciN (rc0 := (rmr 2 15 (114))) (Qk := CB (mV M) (rnew ω42 q45 (.inr (1, [.null, .int 0, .null, .int 0, .null, .null, .null, .null, .null, .int 0, .null, .int 0, .null, .null, .null, .null, .null]))) q45) (b := q45) (As := []) C ki_X11_init_X1_init_11 (fun h9 => h9.1) hNW rfl (Nat.le_of_ble_eq_true rfl) dX11_init_31 ⟨Nat.le_of_ble_eq_true rfl, Nat.le_of_ble_eq_true rfl⟩ (k_X1_init hU (List.mem_append_right _ (List.mem_singleton.mpr rfl)) (va_up_self _ _ _) ) (fun ω46 bZ => ?_)
  obtain ⟨q47, q48, q49, q50, q51, q52, q53, q54, q55, q56, q57, q58, q59, q60, q61, bZ, cZ⟩ := bZ
  obtain ⟨bZ, eZ⟩ := BT_call b43 hq45 bZ cZ
  have b62 := bZ
  clear bZ b43
  have c63 := eZ.trans c44
  clear cZ eZ
  show PR M 34 [(0, .ref h)] [.ref q45, .ref h] ω46 (48, 393)
  refine Y_putF C hI pf_X11_init_21 b62 c63 rfl rfl (Nat.le_of_ble_eq_true rfl) dX11_init_34 (fun ω64 bZ cZ => ?_)
  have b65 := bZ
  clear bZ b62
  have c66 : ω64.2 h = .inr (11, [.ref q1, .ref q23, .ref q45, .int 0, .null, .int 0, .null, .int 0, .null, .null, .null, .null, .null]) := cZ
  clear cZ
  refine Z_aload_n C dX11_init_37 0 rfl ?_
  refine Z_iconst C dX11_init_38 (v := (0 : Int32)) (by decide +kernel) ?_
  refine Y_put C pa_X11_init_24 b65 c66 rfl rfl (Nat.le_of_ble_eq_true rfl) dX11_init_39 (fun ω67 bZ cZ => ?_)
  have b68 := bZ
  clear bZ b65
  have c69 : ω67.2 h = .inr (11, [.ref q1, .ref q23, .ref q45, .int (0 : Int32), .null, .int 0, .null, .int 0, .null, .null, .null, .null, .null]) := cZ
  clear cZ
  refine Z_aload_n C dX11_init_42 0 rfl ?_
  refine Z_bipush C dX11_init_43 (v := (6 : Int32)) (by decide +kernel) ?_
  refine Y_newq (t := 5) C hU b68 (fun U h => (hU U h).2.2.1) rfl (List.mem_of_getElem? (i := 11) rfl) (by decide +kernel) rfl (by decide +kernel) (Nat.le_of_ble_eq_true rfl) (Nat.le_of_ble_eq_true rfl) dX11_init_45 (fun q70 ω71 bZ eZ => ?_)
  have b72 := bZ
  clear bZ b68
  have c73 := eZ.trans c69
  clear eZ
  show PR M 48 [(0, .ref h)] [.ref q70, .ref h] ω71 (49, 399)
  refine Y_putF C hI pf_X11_init_30 b72 c73 rfl rfl (Nat.le_of_ble_eq_true rfl) dX11_init_48 (fun ω74 bZ cZ => ?_)
  have b75 := bZ
  clear bZ b72
  have c76 : ω74.2 h = .inr (11, [.ref q1, .ref q23, .ref q45, .int (0 : Int32), .ref q70, .int 0, .null, .int 0, .null, .null, .null, .null, .null]) := cZ
  clear cZ
  refine Z_aload_n C dX11_init_51 0 rfl ?_
  refine Z_iconst C dX11_init_52 (v := (0 : Int32)) (by decide +kernel) ?_
  refine Y_put C pa_X11_init_34 b75 c76 rfl rfl (Nat.le_of_ble_eq_true rfl) dX11_init_53 (fun ω77 bZ cZ => ?_)
  have b78 := bZ
  clear bZ b75
  have c79 : ω77.2 h = .inr (11, [.ref q1, .ref q23, .ref q45, .int (0 : Int32), .ref q70, .int (0 : Int32), .null, .int 0, .null, .null, .null, .null, .null]) := cZ
  clear cZ
  refine Z_aload_n C dX11_init_56 0 rfl ?_
  refine Z_bipush C dX11_init_57 (v := (100 : Int32)) (by decide +kernel) ?_
  refine Y_newa (t := 1) (a0 := (100, .inl (fun _ => 0))) C hU b78 (List.mem_of_getElem? (i := 14) rfl) rfl rfl (fun _ _ q => q) (fun _ => rfl) (by decide +kernel) rfl (by decide +kernel) (Nat.le_of_ble_eq_true rfl) (Nat.le_of_ble_eq_true rfl) dX11_init_59 (fun q80 ω81 bZ eZ => ?_)
  have b82 := bZ
  clear bZ b78
  have cZ := eZ.trans c79
  have c83 := cZ
  clear cZ eZ
  show PR M 61 [(0, .ref h)] [.ref q80, .ref h] ω81 (50, 499)
  refine Y_putF C hI pf_X11_init_38 b82 c83 rfl rfl (Nat.le_of_ble_eq_true rfl) dX11_init_61 (fun ω84 bZ cZ => ?_)
  have b85 := bZ
  clear bZ b82
  have c86 : ω84.2 h = .inr (11, [.ref q1, .ref q23, .ref q45, .int (0 : Int32), .ref q70, .int (0 : Int32), .ref q80, .int 0, .null, .null, .null, .null, .null]) := cZ
  clear cZ
  refine Z_aload_n C dX11_init_64 0 rfl ?_
  refine Z_iconst C dX11_init_65 (v := (0 : Int32)) (by decide +kernel) ?_
  refine Y_put C pa_X11_init_42 b85 c86 rfl rfl (Nat.le_of_ble_eq_true rfl) dX11_init_66 (fun ω87 bZ cZ => ?_)
  have b88 := bZ
  clear bZ b85
  have c89 : ω87.2 h = .inr (11, [.ref q1, .ref q23, .ref q45, .int (0 : Int32), .ref q70, .int (0 : Int32), .ref q80, .int (0 : Int32), .null, .null, .null, .null, .null]) := cZ
  clear cZ
  refine Z_aload_n C dX11_init_69 0 rfl ?_
  refine Z_bipush C dX11_init_70 (v := (6 : Int32)) (by decide +kernel) ?_
  refine Y_newq (t := 6) C hU b88 (fun U h => (hU U h).2.2.2) rfl (List.mem_of_getElem? (i := 17) rfl) (by decide +kernel) rfl (by decide +kernel) (Nat.le_of_ble_eq_true rfl) (Nat.le_of_ble_eq_true rfl) dX11_init_72 (fun q90 ω91 bZ eZ => ?_)
  have b92 := bZ
  clear bZ b88
  have c93 := eZ.trans c89
  clear eZ
  show PR M 75 [(0, .ref h)] [.ref q90, .ref h] ω91 (51, 505)
  refine Y_putF C hI pf_X11_init_47 b92 c93 rfl rfl (Nat.le_of_ble_eq_true rfl) dX11_init_75 (fun ω94 bZ cZ => ?_)
  have b95 := bZ
  clear bZ b92
  have c96 : ω94.2 h = .inr (11, [.ref q1, .ref q23, .ref q45, .int (0 : Int32), .ref q70, .int (0 : Int32), .ref q80, .int (0 : Int32), .ref q90, .null, .null, .null, .null]) := cZ
  clear cZ
  refine Z_aload_n C dX11_init_78 0 rfl ?_
  refine Z_new (fs := [.null, .int 0]) C hU (ci := 5) rfl (fun _ h => List.mem_cons_of_mem _ (List.mem_append_left _ (List.mem_append_left _ (List.mem_append_right _ h)))) tyX5_ok (List.mem_of_getElem? (i := 19) rfl) (List.mem_of_getElem? (i := 20) rfl) (List.mem_of_getElem? (i := 21) rfl) dfX5 (Nat.le_of_ble_eq_true rfl) (Nat.le_of_ble_eq_true rfl) dX11_init_79 (fun q97 hq97 => ?_)
  show PR M 82 [(0, .ref h)] [.ref q97, .ref h] (rnew ω94 q97 (.inr (5, [.null, .int 0]))) (52, 507)
  refine Z_dup C dX11_init_82 rfl ?_
  refine Z_bipush C dX11_init_83 (v := (20 : Int32)) (by decide +kernel) ?_
  refine Z_ci (rc0 := (rmr 1 (0 + 1) (0 + 20))) (Qk := NB (mV M) 20 (rnew ω94 q97 (.inr (5, [.null, .int 0]))) q97) (b := q97) (As := [.int (20 : Int32)]) C ki_X11_init_X5_init_53  rfl (Nat.le_of_ble_eq_true rfl) dX11_init_85 ⟨Nat.le_of_ble_eq_true rfl, Nat.le_of_ble_eq_true rfl⟩ (k_X5_init hU (List.mem_append_right _ (List.mem_singleton.mpr rfl)) (va_up_self _ _ _) (by decide +kernel) rfl (by decide +kernel)) (fun ω98 bZ => ?_)
  obtain ⟨q99, bZ, cZ⟩ := bZ
  obtain ⟨bZ, eZ⟩ := BT_call b95 hq97 bZ cZ
  have b100 := bZ
  clear bZ b95
  have c101 := eZ.trans c96
  clear cZ eZ
  show PR M 88 [(0, .ref h)] [.ref q97, .ref h] ω98 (53, 527)
  refine Y_putF C hI pf_X11_init_56 b100 c101 rfl rfl (Nat.le_of_ble_eq_true rfl) dX11_init_88 (fun ω102 bZ cZ => ?_)
  have b103 := bZ
  clear bZ b100
  have c104 : ω102.2 h = .inr (11, [.ref q1, .ref q23, .ref q45, .int (0 : Int32), .ref q70, .int (0 : Int32), .ref q80, .int (0 : Int32), .ref q90, .ref q97, .null, .null, .null]) := cZ
  clear cZ
  refine Z_aload_n C dX11_init_91 0 rfl ?_
  refine Z_iconst C dX11_init_92 (v := (5 : Int32)) (by decide +kernel) ?_
  refine Y_newa (t := 0) (a0 := (5, .inl (fun _ => 0))) C hU b103 (List.mem_of_getElem? (i := 23) rfl) rfl rfl (fun _ _ q => q) (fun _ => rfl) (by decide +kernel) rfl (by decide +kernel) (Nat.le_of_ble_eq_true rfl) (Nat.le_of_ble_eq_true rfl) dX11_init_93 (fun q105 ω106 bZ eZ => ?_)
  have b107 := bZ
  clear bZ b103
  have cZ := eZ.trans c104
  have c108 := cZ
  clear cZ eZ
  show PR M 95 [(0, .ref h)] [.ref q105, .ref h] ω106 (54, 532)
  refine Y_putF C hI pf_X11_init_60 b107 c108 rfl rfl (Nat.le_of_ble_eq_true rfl) dX11_init_95 (fun ω109 bZ cZ => ?_)
  have b110 := bZ
  clear bZ b107
  have c111 : ω109.2 h = .inr (11, [.ref q1, .ref q23, .ref q45, .int (0 : Int32), .ref q70, .int (0 : Int32), .ref q80, .int (0 : Int32), .ref q90, .ref q97, .ref q105, .null, .null]) := cZ
  clear cZ
  refine Z_aload_n C dX11_init_98 0 rfl ?_
  refine Z_iconst C dX11_init_99 (v := (5 : Int32)) (by decide +kernel) ?_
  refine Y_newa (t := 0) (a0 := (5, .inl (fun _ => 0))) C hU b110 (List.mem_of_getElem? (i := 23) rfl) rfl rfl (fun _ _ q => q) (fun _ => rfl) (by decide +kernel) rfl (by decide +kernel) (Nat.le_of_ble_eq_true rfl) (Nat.le_of_ble_eq_true rfl) dX11_init_100 (fun q112 ω113 bZ eZ => ?_)
  have b114 := bZ
  clear bZ b110
  have cZ := eZ.trans c111
  have c115 := cZ
  clear cZ eZ
  show PR M 102 [(0, .ref h)] [.ref q112, .ref h] ω113 (55, 537)
  refine Y_putF C hI pf_X11_init_64 b114 c115 rfl rfl (Nat.le_of_ble_eq_true rfl) dX11_init_102 (fun ω116 bZ cZ => ?_)
  have b117 := bZ
  clear bZ b114
  have c118 : ω116.2 h = .inr (11, [.ref q1, .ref q23, .ref q45, .int (0 : Int32), .ref q70, .int (0 : Int32), .ref q80, .int (0 : Int32), .ref q90, .ref q97, .ref q105, .ref q112, .null]) := cZ
  clear cZ
  refine Z_aload_n C dX11_init_105 0 rfl ?_
  refine Z_bipush C dX11_init_106 (v := (6 : Int32)) (by decide +kernel) ?_
  refine Y_newa (t := 0) (a0 := (6, .inl (fun _ => 0))) C hU b117 (List.mem_of_getElem? (i := 23) rfl) rfl rfl (fun _ _ q => q) (fun _ => rfl) (by decide +kernel) rfl (by decide +kernel) (Nat.le_of_ble_eq_true rfl) (Nat.le_of_ble_eq_true rfl) dX11_init_108 (fun q119 ω120 bZ eZ => ?_)
  have b121 := bZ
  clear bZ b117
  have cZ := eZ.trans c118
  have c122 := cZ
  clear cZ eZ
  show PR M 110 [(0, .ref h)] [.ref q119, .ref h] ω120 (56, 543)
  refine Y_putF C hI pf_X11_init_67 b121 c122 rfl rfl (Nat.le_of_ble_eq_true rfl) dX11_init_110 (fun ω123 bZ cZ => ?_)
  have b124 := bZ
  clear bZ b121
  have c125 : ω123.2 h = .inr (11, [.ref q1, .ref q23, .ref q45, .int (0 : Int32), .ref q70, .int (0 : Int32), .ref q80, .int (0 : Int32), .ref q90, .ref q97, .ref q105, .ref q112, .ref q119]) := cZ
  clear cZ
  refine Z_new (fs := [.int 0, .int 0, .int 0, .null, .int 0, .null, .null, .null, .int 0, .null, .int 0, .int 0]) C hU (ci := 2) rfl (fun _ h => List.mem_cons_of_mem _ (List.mem_append_left _ (List.mem_append_right _ h))) tyX2_ok (List.mem_of_getElem? (i := 11) rfl) (List.mem_of_getElem? (i := 27) rfl) (List.mem_of_getElem? (i := 28) rfl) dfX2 (Nat.le_of_ble_eq_true rfl) (Nat.le_of_ble_eq_true rfl) dX11_init_113 (fun q126 hq126 => ?_)
  show PR M 116 [(0, .ref h)] [.ref q126] (rnew ω123 q126 (.inr (2, [.int 0, .int 0, .int 0, .null, .int 0, .null, .null, .null, .int 0, .null, .int 0, .int 0]))) (57, 555)
  refine Z_dup C dX11_init_116 rfl ?_
  refine Z_ciN (rc0 := (rmr 1 4 (130))) (Qk := FB (mV M) (rnew ω123 q126 (.inr (2, [.int 0, .int 0, .int 0, .null, .int 0, .null, .null, .null, .int 0, .null, .int 0, .int 0]))) q126) (b := q126) (As := []) C ki_X11_init_X2_init_70 (fun h9 => h9.2.1) hNW rfl (Nat.le_of_ble_eq_true rfl) dX11_init_117 ⟨Nat.le_of_ble_eq_true rfl, Nat.le_of_ble_eq_true rfl⟩ (k_X2_init hU (List.mem_append_right _ (List.mem_singleton.mpr rfl)) (va_up_self _ _ _) ) (fun ω127 bZ => ?_)
  obtain ⟨q128, q129, q130, q131, bZ, cZ⟩ := bZ
  obtain ⟨bZ, eZ⟩ := BT_call b124 hq126 bZ cZ
  have b132 := bZ
  clear bZ b124
  have c133 := eZ.trans c125
  clear cZ eZ
  show PR M 120 [(0, .ref h)] [.ref q126] ω127 (61, 685)
  refine Z_astore_n C dX11_init_120 (by rw [hN]; decide) rfl ?_
  refine Z_aload_n C dX11_init_121 1 rfl ?_
  refine Y_get C fa_X11_init_12 b132 c133 rfl dX11_init_122 ?_
  refine Z_aload_n C dX11_init_125 0 rfl ?_
  refine Y_putP (i := 0) C pa_X11_init_71 b132 rfl rfl rfl (Nat.le_of_ble_eq_true rfl) dX11_init_126 (fun ω134 bZ eZ => ?_)
  have b135 : BT ω0 ω134 h [(q1, .inr (1, [.ref q3, .int (0 : Int32), .ref q4, .int (0 : Int32), .ref q5, .ref q6, .ref q7, .ref q8, .ref q9, .int (0 : Int32), .ref q126, .int (-1 : Int32), .ref q10, .ref q12, .ref q14, .ref q16, .ref q17])), (q3, .inl (vC (mV M) 4, 6, .inr (.inr (.inr (.inr (fun _ => none)))))), (q4, .inl (vC (mV M) 0, (6, .inl (fun _ => 0)))), (q5, .inl (vC (mV M) 0, (6, .inl (fun _ => 0)))), (q6, .inl (vC (mV M) 0, (6, .inl (fun _ => 0)))), (q7, .inl (vC (mV M) 0, (6, .inl (fun _ => 0)))), (q8, .inl (vC (mV M) 0, (6, .inl (fun _ => 0)))), (q9, .inl (vC (mV M) 0, (24, .inl (fun _ => 0)))), (q10, .inr (5, [.ref q11, .int (0 : Int32)])), (q11, .inl (vC (mV M) 0, (18, .inl (fun _ => 0)))), (q12, .inr (5, [.ref q13, .int (0 : Int32)])), (q13, .inl (vC (mV M) 0, (10, .inl (fun _ => 0)))), (q14, .inr (5, [.ref q15, .int (0 : Int32)])), (q15, .inl (vC (mV M) 0, (8, .inl (fun _ => 0)))), (q16, .inl (vC (mV M) 0, (6, .inl (fun _ => 0)))), (q17, .inl (vC (mV M) 0, (6, .inl (fun _ => 0)))), (q23, .inr (1, [.ref q25, .int (0 : Int32), .ref q26, .int (0 : Int32), .ref q27, .ref q28, .ref q29, .ref q30, .ref q31, .int (0 : Int32), .null, .int (-1 : Int32), .ref q32, .ref q34, .ref q36, .ref q38, .ref q39])), (q25, .inl (vC (mV M) 4, 6, .inr (.inr (.inr (.inr (fun _ => none)))))), (q26, .inl (vC (mV M) 0, (6, .inl (fun _ => 0)))), (q27, .inl (vC (mV M) 0, (6, .inl (fun _ => 0)))), (q28, .inl (vC (mV M) 0, (6, .inl (fun _ => 0)))), (q29, .inl (vC (mV M) 0, (6, .inl (fun _ => 0)))), (q30, .inl (vC (mV M) 0, (6, .inl (fun _ => 0)))), (q31, .inl (vC (mV M) 0, (24, .inl (fun _ => 0)))), (q32, .inr (5, [.ref q33, .int (0 : Int32)])), (q33, .inl (vC (mV M) 0, (18, .inl (fun _ => 0)))), (q34, .inr (5, [.ref q35, .int (0 : Int32)])), (q35, .inl (vC (mV M) 0, (10, .inl (fun _ => 0)))), (q36, .inr (5, [.ref q37, .int (0 : Int32)])), (q37, .inl (vC (mV M) 0, (8, .inl (fun _ => 0)))), (q38, .inl (vC (mV M) 0, (6, .inl (fun _ => 0)))), (q39, .inl (vC (mV M) 0, (6, .inl (fun _ => 0)))), (q45, .inr (1, [.ref q47, .int (0 : Int32), .ref q48, .int (0 : Int32), .ref q49, .ref q50, .ref q51, .ref q52, .ref q53, .int (0 : Int32), .null, .int (-1 : Int32), .ref q54, .ref q56, .ref q58, .ref q60, .ref q61])), (q47, .inl (vC (mV M) 4, 6, .inr (.inr (.inr (.inr (fun _ => none)))))), (q48, .inl (vC (mV M) 0, (6, .inl (fun _ => 0)))), (q49, .inl (vC (mV M) 0, (6, .inl (fun _ => 0)))), (q50, .inl (vC (mV M) 0, (6, .inl (fun _ => 0)))), (q51, .inl (vC (mV M) 0, (6, .inl (fun _ => 0)))), (q52, .inl (vC (mV M) 0, (6, .inl (fun _ => 0)))), (q53, .inl (vC (mV M) 0, (24, .inl (fun _ => 0)))), (q54, .inr (5, [.ref q55, .int (0 : Int32)])), (q55, .inl (vC (mV M) 0, (18, .inl (fun _ => 0)))), (q56, .inr (5, [.ref q57, .int (0 : Int32)])), (q57, .inl (vC (mV M) 0, (10, .inl (fun _ => 0)))), (q58, .inr (5, [.ref q59, .int (0 : Int32)])), (q59, .inl (vC (mV M) 0, (8, .inl (fun _ => 0)))), (q60, .inl (vC (mV M) 0, (6, .inl (fun _ => 0)))), (q61, .inl (vC (mV M) 0, (6, .inl (fun _ => 0)))), (q70, .inl (vC (mV M) 5, 6, .inr (.inr (.inr (.inr (fun _ => none)))))), (q80, .inl (vC (mV M) 1, (100, .inl (fun _ => 0)))), (q90, .inl (vC (mV M) 6, 6, .inr (.inr (.inr (.inr (fun _ => none)))))), (q97, .inr (5, [.ref q99, .int (0 : Int32)])), (q99, .inl (vC (mV M) 0, (20, .inl (fun _ => 0)))), (q105, .inl (vC (mV M) 0, (5, .inl (fun _ => 0)))), (q112, .inl (vC (mV M) 0, (5, .inl (fun _ => 0)))), (q119, .inl (vC (mV M) 0, (6, .inl (fun _ => 0)))), (q126, .inr (2, [.int (2 : Int32), .int (1 : Int32), .int (60 : Int32), .ref q128, .int (0 : Int32), .ref q129, .ref q130, .ref q131, .int (0 : Int32), .null, .int (0 : Int32), .int (0 : Int32)])), (q128, .inl (vC (mV M) 0, (100, .inl (fun _ => 0)))), (q129, .inl (vC (mV M) 0, (10, .inl (fun _ => 0)))), (q130, .inl (vC (mV M) 0, (10, .inl (fun _ => 0)))), (q131, .inl (vC (mV M) 0, (10, .inl (fun _ => 0))))] := bZ
  clear bZ b132
  have c136 := eZ.trans c133
  clear eZ
  refine Z_aload_n C dX11_init_129 1 rfl ?_
  refine Y_get C fa_X11_init_18 b135 c136 rfl dX11_init_130 ?_
  refine Z_aload_n C dX11_init_133 0 rfl ?_
  refine Y_putP (i := 16) C pa_X11_init_71 b135 rfl rfl rfl (Nat.le_of_ble_eq_true rfl) dX11_init_134 (fun ω137 bZ eZ => ?_)
  have b138 : BT ω0 ω137 h [(q1, .inr (1, [.ref q3, .int (0 : Int32), .ref q4, .int (0 : Int32), .ref q5, .ref q6, .ref q7, .ref q8, .ref q9, .int (0 : Int32), .ref q126, .int (-1 : Int32), .ref q10, .ref q12, .ref q14, .ref q16, .ref q17])), (q3, .inl (vC (mV M) 4, 6, .inr (.inr (.inr (.inr (fun _ => none)))))), (q4, .inl (vC (mV M) 0, (6, .inl (fun _ => 0)))), (q5, .inl (vC (mV M) 0, (6, .inl (fun _ => 0)))), (q6, .inl (vC (mV M) 0, (6, .inl (fun _ => 0)))), (q7, .inl (vC (mV M) 0, (6, .inl (fun _ => 0)))), (q8, .inl (vC (mV M) 0, (6, .inl (fun _ => 0)))), (q9, .inl (vC (mV M) 0, (24, .inl (fun _ => 0)))), (q10, .inr (5, [.ref q11, .int (0 : Int32)])), (q11, .inl (vC (mV M) 0, (18, .inl (fun _ => 0)))), (q12, .inr (5, [.ref q13, .int (0 : Int32)])), (q13, .inl (vC (mV M) 0, (10, .inl (fun _ => 0)))), (q14, .inr (5, [.ref q15, .int (0 : Int32)])), (q15, .inl (vC (mV M) 0, (8, .inl (fun _ => 0)))), (q16, .inl (vC (mV M) 0, (6, .inl (fun _ => 0)))), (q17, .inl (vC (mV M) 0, (6, .inl (fun _ => 0)))), (q23, .inr (1, [.ref q25, .int (0 : Int32), .ref q26, .int (0 : Int32), .ref q27, .ref q28, .ref q29, .ref q30, .ref q31, .int (0 : Int32), .ref q126, .int (-1 : Int32), .ref q32, .ref q34, .ref q36, .ref q38, .ref q39])), (q25, .inl (vC (mV M) 4, 6, .inr (.inr (.inr (.inr (fun _ => none)))))), (q26, .inl (vC (mV M) 0, (6, .inl (fun _ => 0)))), (q27, .inl (vC (mV M) 0, (6, .inl (fun _ => 0)))), (q28, .inl (vC (mV M) 0, (6, .inl (fun _ => 0)))), (q29, .inl (vC (mV M) 0, (6, .inl (fun _ => 0)))), (q30, .inl (vC (mV M) 0, (6, .inl (fun _ => 0)))), (q31, .inl (vC (mV M) 0, (24, .inl (fun _ => 0)))), (q32, .inr (5, [.ref q33, .int (0 : Int32)])), (q33, .inl (vC (mV M) 0, (18, .inl (fun _ => 0)))), (q34, .inr (5, [.ref q35, .int (0 : Int32)])), (q35, .inl (vC (mV M) 0, (10, .inl (fun _ => 0)))), (q36, .inr (5, [.ref q37, .int (0 : Int32)])), (q37, .inl (vC (mV M) 0, (8, .inl (fun _ => 0)))), (q38, .inl (vC (mV M) 0, (6, .inl (fun _ => 0)))), (q39, .inl (vC (mV M) 0, (6, .inl (fun _ => 0)))), (q45, .inr (1, [.ref q47, .int (0 : Int32), .ref q48, .int (0 : Int32), .ref q49, .ref q50, .ref q51, .ref q52, .ref q53, .int (0 : Int32), .null, .int (-1 : Int32), .ref q54, .ref q56, .ref q58, .ref q60, .ref q61])), (q47, .inl (vC (mV M) 4, 6, .inr (.inr (.inr (.inr (fun _ => none)))))), (q48, .inl (vC (mV M) 0, (6, .inl (fun _ => 0)))), (q49, .inl (vC (mV M) 0, (6, .inl (fun _ => 0)))), (q50, .inl (vC (mV M) 0, (6, .inl (fun _ => 0)))), (q51, .inl (vC (mV M) 0, (6, .inl (fun _ => 0)))), (q52, .inl (vC (mV M) 0, (6, .inl (fun _ => 0)))), (q53, .inl (vC (mV M) 0, (24, .inl (fun _ => 0)))), (q54, .inr (5, [.ref q55, .int (0 : Int32)])), (q55, .inl (vC (mV M) 0, (18, .inl (fun _ => 0)))), (q56, .inr (5, [.ref q57, .int (0 : Int32)])), (q57, .inl (vC (mV M) 0, (10, .inl (fun _ => 0)))), (q58, .inr (5, [.ref q59, .int (0 : Int32)])), (q59, .inl (vC (mV M) 0, (8, .inl (fun _ => 0)))), (q60, .inl (vC (mV M) 0, (6, .inl (fun _ => 0)))), (q61, .inl (vC (mV M) 0, (6, .inl (fun _ => 0)))), (q70, .inl (vC (mV M) 5, 6, .inr (.inr (.inr (.inr (fun _ => none)))))), (q80, .inl (vC (mV M) 1, (100, .inl (fun _ => 0)))), (q90, .inl (vC (mV M) 6, 6, .inr (.inr (.inr (.inr (fun _ => none)))))), (q97, .inr (5, [.ref q99, .int (0 : Int32)])), (q99, .inl (vC (mV M) 0, (20, .inl (fun _ => 0)))), (q105, .inl (vC (mV M) 0, (5, .inl (fun _ => 0)))), (q112, .inl (vC (mV M) 0, (5, .inl (fun _ => 0)))), (q119, .inl (vC (mV M) 0, (6, .inl (fun _ => 0)))), (q126, .inr (2, [.int (2 : Int32), .int (1 : Int32), .int (60 : Int32), .ref q128, .int (0 : Int32), .ref q129, .ref q130, .ref q131, .int (0 : Int32), .null, .int (0 : Int32), .int (0 : Int32)])), (q128, .inl (vC (mV M) 0, (100, .inl (fun _ => 0)))), (q129, .inl (vC (mV M) 0, (10, .inl (fun _ => 0)))), (q130, .inl (vC (mV M) 0, (10, .inl (fun _ => 0)))), (q131, .inl (vC (mV M) 0, (10, .inl (fun _ => 0))))] := bZ
  clear bZ b135
  have c139 := eZ.trans c136
  clear eZ
  refine Z_aload_n C dX11_init_137 1 rfl ?_
  refine Y_get C fa_X11_init_21 b138 c139 rfl dX11_init_138 ?_
  refine Z_aload_n C dX11_init_141 0 rfl ?_
  refine Y_putP (i := 32) C pa_X11_init_71 b138 rfl rfl rfl (Nat.le_of_ble_eq_true rfl) dX11_init_142 (fun ω140 bZ eZ => ?_)
  have b141 : BT ω0 ω140 h [(q1, .inr (1, [.ref q3, .int (0 : Int32), .ref q4, .int (0 : Int32), .ref q5, .ref q6, .ref q7, .ref q8, .ref q9, .int (0 : Int32), .ref q126, .int (-1 : Int32), .ref q10, .ref q12, .ref q14, .ref q16, .ref q17])), (q3, .inl (vC (mV M) 4, 6, .inr (.inr (.inr (.inr (fun _ => none)))))), (q4, .inl (vC (mV M) 0, (6, .inl (fun _ => 0)))), (q5, .inl (vC (mV M) 0, (6, .inl (fun _ => 0)))), (q6, .inl (vC (mV M) 0, (6, .inl (fun _ => 0)))), (q7, .inl (vC (mV M) 0, (6, .inl (fun _ => 0)))), (q8, .inl (vC (mV M) 0, (6, .inl (fun _ => 0)))), (q9, .inl (vC (mV M) 0, (24, .inl (fun _ => 0)))), (q10, .inr (5, [.ref q11, .int (0 : Int32)])), (q11, .inl (vC (mV M) 0, (18, .inl (fun _ => 0)))), (q12, .inr (5, [.ref q13, .int (0 : Int32)])), (q13, .inl (vC (mV M) 0, (10, .inl (fun _ => 0)))), (q14, .inr (5, [.ref q15, .int (0 : Int32)])), (q15, .inl (vC (mV M) 0, (8, .inl (fun _ => 0)))), (q16, .inl (vC (mV M) 0, (6, .inl (fun _ => 0)))), (q17, .inl (vC (mV M) 0, (6, .inl (fun _ => 0)))), (q23, .inr (1, [.ref q25, .int (0 : Int32), .ref q26, .int (0 : Int32), .ref q27, .ref q28, .ref q29, .ref q30, .ref q31, .int (0 : Int32), .ref q126, .int (-1 : Int32), .ref q32, .ref q34, .ref q36, .ref q38, .ref q39])), (q25, .inl (vC (mV M) 4, 6, .inr (.inr (.inr (.inr (fun _ => none)))))), (q26, .inl (vC (mV M) 0, (6, .inl (fun _ => 0)))), (q27, .inl (vC (mV M) 0, (6, .inl (fun _ => 0)))), (q28, .inl (vC (mV M) 0, (6, .inl (fun _ => 0)))), (q29, .inl (vC (mV M) 0, (6, .inl (fun _ => 0)))), (q30, .inl (vC (mV M) 0, (6, .inl (fun _ => 0)))), (q31, .inl (vC (mV M) 0, (24, .inl (fun _ => 0)))), (q32, .inr (5, [.ref q33, .int (0 : Int32)])), (q33, .inl (vC (mV M) 0, (18, .inl (fun _ => 0)))), (q34, .inr (5, [.ref q35, .int (0 : Int32)])), (q35, .inl (vC (mV M) 0, (10, .inl (fun _ => 0)))), (q36, .inr (5, [.ref q37, .int (0 : Int32)])), (q37, .inl (vC (mV M) 0, (8, .inl (fun _ => 0)))), (q38, .inl (vC (mV M) 0, (6, .inl (fun _ => 0)))), (q39, .inl (vC (mV M) 0, (6, .inl (fun _ => 0)))), (q45, .inr (1, [.ref q47, .int (0 : Int32), .ref q48, .int (0 : Int32), .ref q49, .ref q50, .ref q51, .ref q52, .ref q53, .int (0 : Int32), .ref q126, .int (-1 : Int32), .ref q54, .ref q56, .ref q58, .ref q60, .ref q61])), (q47, .inl (vC (mV M) 4, 6, .inr (.inr (.inr (.inr (fun _ => none)))))), (q48, .inl (vC (mV M) 0, (6, .inl (fun _ => 0)))), (q49, .inl (vC (mV M) 0, (6, .inl (fun _ => 0)))), (q50, .inl (vC (mV M) 0, (6, .inl (fun _ => 0)))), (q51, .inl (vC (mV M) 0, (6, .inl (fun _ => 0)))), (q52, .inl (vC (mV M) 0, (6, .inl (fun _ => 0)))), (q53, .inl (vC (mV M) 0, (24, .inl (fun _ => 0)))), (q54, .inr (5, [.ref q55, .int (0 : Int32)])), (q55, .inl (vC (mV M) 0, (18, .inl (fun _ => 0)))), (q56, .inr (5, [.ref q57, .int (0 : Int32)])), (q57, .inl (vC (mV M) 0, (10, .inl (fun _ => 0)))), (q58, .inr (5, [.ref q59, .int (0 : Int32)])), (q59, .inl (vC (mV M) 0, (8, .inl (fun _ => 0)))), (q60, .inl (vC (mV M) 0, (6, .inl (fun _ => 0)))), (q61, .inl (vC (mV M) 0, (6, .inl (fun _ => 0)))), (q70, .inl (vC (mV M) 5, 6, .inr (.inr (.inr (.inr (fun _ => none)))))), (q80, .inl (vC (mV M) 1, (100, .inl (fun _ => 0)))), (q90, .inl (vC (mV M) 6, 6, .inr (.inr (.inr (.inr (fun _ => none)))))), (q97, .inr (5, [.ref q99, .int (0 : Int32)])), (q99, .inl (vC (mV M) 0, (20, .inl (fun _ => 0)))), (q105, .inl (vC (mV M) 0, (5, .inl (fun _ => 0)))), (q112, .inl (vC (mV M) 0, (5, .inl (fun _ => 0)))), (q119, .inl (vC (mV M) 0, (6, .inl (fun _ => 0)))), (q126, .inr (2, [.int (2 : Int32), .int (1 : Int32), .int (60 : Int32), .ref q128, .int (0 : Int32), .ref q129, .ref q130, .ref q131, .int (0 : Int32), .null, .int (0 : Int32), .int (0 : Int32)])), (q128, .inl (vC (mV M) 0, (100, .inl (fun _ => 0)))), (q129, .inl (vC (mV M) 0, (10, .inl (fun _ => 0)))), (q130, .inl (vC (mV M) 0, (10, .inl (fun _ => 0)))), (q131, .inl (vC (mV M) 0, (10, .inl (fun _ => 0))))] := bZ
  clear bZ b138
  have c142 := eZ.trans c139
  clear eZ
  refine Z_iconst C dX11_init_145 (v := (0 : Int32)) (by decide +kernel) ?_
  refine Z_istore_n C dX11_init_146 (by rw [hN]; decide) rfl ?_
  refine Z_iload_n C dX11_init_147 0 rfl ?_
  refine Z_bipush C dX11_init_148 (v := (6 : Int32)) (by decide +kernel) ?_
  refine Z_icmp_ge C dX11_init_150 (tgt := 172) (by decide +kernel) (fun z => absurd z (by decide +kernel)) (fun _ => ?_)
  refine Z_aload_n C dX11_init_153 2 rfl ?_
  refine Y_get C fa_X11_init_47 b141 c142 rfl dX11_init_154 ?_
  refine Z_iload_n C dX11_init_157 0 rfl ?_
  refine Z_new (fs := [.null, .int 0, .int 0]) C hU (ci := 9) rfl (fun _ h => List.mem_cons_of_mem _ (List.mem_append_right _ h)) tyX9_ok (List.mem_of_getElem? (i := 17) rfl) (List.mem_of_getElem? (i := 30) rfl) (List.mem_of_getElem? (i := 31) rfl) dfX9 (Nat.le_of_ble_eq_true rfl) (Nat.le_of_ble_eq_true rfl) dX11_init_158 (fun q143 hq143 => ?_)
  show PR M 161 [(2, .int (0 : Int32)), (1, .ref q126), (0, .ref h)] [.ref q143, .int (0 : Int32), .ref q90] (rnew ω140 q143 (.inr (9, [.null, .int 0, .int 0]))) (62, 688)
  refine Z_dup C dX11_init_161 rfl ?_
  refine Z_ciN (rc0 := (rmr 1 1 (60))) (Qk := TB (mV M) (rnew ω140 q143 (.inr (9, [.null, .int 0, .int 0]))) q143) (b := q143) (As := []) C ki_X11_init_X9_init_75 (fun h9 => h9.2.2) hNW rfl (Nat.le_of_ble_eq_true rfl) dX11_init_162 ⟨Nat.le_of_ble_eq_true rfl, Nat.le_of_ble_eq_true rfl⟩ (k_X9_init hU (List.mem_append_right _ (List.mem_singleton.mpr rfl)) (va_up_self _ _ _) ) (fun ω144 bZ => ?_)
  obtain ⟨q145, bZ, cZ⟩ := bZ
  obtain ⟨bZ, eZ⟩ := BT_call b141 hq143 bZ cZ
  have b146 := bZ
  clear bZ b141
  have c147 := eZ.trans c142
  clear cZ eZ
  show PR M 165 [(2, .int (0 : Int32)), (1, .ref q126), (0, .ref h)] [.ref q143, .int (0 : Int32), .ref q90] ω144 (63, 748)
  refine Y_aast (k := 50) (k2 := 61) C b146 rfl rfl rfl rfl (vp_in_iff.mpr ⟨by decide +kernel, by decide +kernel⟩) dX11_init_165 (fun ω148 bZ eZ => ?_)
  have b149 : BT ω0 ω148 h [(q1, .inr (1, [.ref q3, .int (0 : Int32), .ref q4, .int (0 : Int32), .ref q5, .ref q6, .ref q7, .ref q8, .ref q9, .int (0 : Int32), .ref q126, .int (-1 : Int32), .ref q10, .ref q12, .ref q14, .ref q16, .ref q17])), (q3, .inl (vC (mV M) 4, 6, .inr (.inr (.inr (.inr (fun _ => none)))))), (q4, .inl (vC (mV M) 0, (6, .inl (fun _ => 0)))), (q5, .inl (vC (mV M) 0, (6, .inl (fun _ => 0)))), (q6, .inl (vC (mV M) 0, (6, .inl (fun _ => 0)))), (q7, .inl (vC (mV M) 0, (6, .inl (fun _ => 0)))), (q8, .inl (vC (mV M) 0, (6, .inl (fun _ => 0)))), (q9, .inl (vC (mV M) 0, (24, .inl (fun _ => 0)))), (q10, .inr (5, [.ref q11, .int (0 : Int32)])), (q11, .inl (vC (mV M) 0, (18, .inl (fun _ => 0)))), (q12, .inr (5, [.ref q13, .int (0 : Int32)])), (q13, .inl (vC (mV M) 0, (10, .inl (fun _ => 0)))), (q14, .inr (5, [.ref q15, .int (0 : Int32)])), (q15, .inl (vC (mV M) 0, (8, .inl (fun _ => 0)))), (q16, .inl (vC (mV M) 0, (6, .inl (fun _ => 0)))), (q17, .inl (vC (mV M) 0, (6, .inl (fun _ => 0)))), (q23, .inr (1, [.ref q25, .int (0 : Int32), .ref q26, .int (0 : Int32), .ref q27, .ref q28, .ref q29, .ref q30, .ref q31, .int (0 : Int32), .ref q126, .int (-1 : Int32), .ref q32, .ref q34, .ref q36, .ref q38, .ref q39])), (q25, .inl (vC (mV M) 4, 6, .inr (.inr (.inr (.inr (fun _ => none)))))), (q26, .inl (vC (mV M) 0, (6, .inl (fun _ => 0)))), (q27, .inl (vC (mV M) 0, (6, .inl (fun _ => 0)))), (q28, .inl (vC (mV M) 0, (6, .inl (fun _ => 0)))), (q29, .inl (vC (mV M) 0, (6, .inl (fun _ => 0)))), (q30, .inl (vC (mV M) 0, (6, .inl (fun _ => 0)))), (q31, .inl (vC (mV M) 0, (24, .inl (fun _ => 0)))), (q32, .inr (5, [.ref q33, .int (0 : Int32)])), (q33, .inl (vC (mV M) 0, (18, .inl (fun _ => 0)))), (q34, .inr (5, [.ref q35, .int (0 : Int32)])), (q35, .inl (vC (mV M) 0, (10, .inl (fun _ => 0)))), (q36, .inr (5, [.ref q37, .int (0 : Int32)])), (q37, .inl (vC (mV M) 0, (8, .inl (fun _ => 0)))), (q38, .inl (vC (mV M) 0, (6, .inl (fun _ => 0)))), (q39, .inl (vC (mV M) 0, (6, .inl (fun _ => 0)))), (q45, .inr (1, [.ref q47, .int (0 : Int32), .ref q48, .int (0 : Int32), .ref q49, .ref q50, .ref q51, .ref q52, .ref q53, .int (0 : Int32), .ref q126, .int (-1 : Int32), .ref q54, .ref q56, .ref q58, .ref q60, .ref q61])), (q47, .inl (vC (mV M) 4, 6, .inr (.inr (.inr (.inr (fun _ => none)))))), (q48, .inl (vC (mV M) 0, (6, .inl (fun _ => 0)))), (q49, .inl (vC (mV M) 0, (6, .inl (fun _ => 0)))), (q50, .inl (vC (mV M) 0, (6, .inl (fun _ => 0)))), (q51, .inl (vC (mV M) 0, (6, .inl (fun _ => 0)))), (q52, .inl (vC (mV M) 0, (6, .inl (fun _ => 0)))), (q53, .inl (vC (mV M) 0, (24, .inl (fun _ => 0)))), (q54, .inr (5, [.ref q55, .int (0 : Int32)])), (q55, .inl (vC (mV M) 0, (18, .inl (fun _ => 0)))), (q56, .inr (5, [.ref q57, .int (0 : Int32)])), (q57, .inl (vC (mV M) 0, (10, .inl (fun _ => 0)))), (q58, .inr (5, [.ref q59, .int (0 : Int32)])), (q59, .inl (vC (mV M) 0, (8, .inl (fun _ => 0)))), (q60, .inl (vC (mV M) 0, (6, .inl (fun _ => 0)))), (q61, .inl (vC (mV M) 0, (6, .inl (fun _ => 0)))), (q70, .inl (vC (mV M) 5, 6, .inr (.inr (.inr (.inr (fun _ => none)))))), (q80, .inl (vC (mV M) 1, (100, .inl (fun _ => 0)))), (q90, .inl (vC (mV M) 6, 6, .inr (.inr (.inr (.inr (va_up (fun _ => none) 0 (some q143))))))), (q97, .inr (5, [.ref q99, .int (0 : Int32)])), (q99, .inl (vC (mV M) 0, (20, .inl (fun _ => 0)))), (q105, .inl (vC (mV M) 0, (5, .inl (fun _ => 0)))), (q112, .inl (vC (mV M) 0, (5, .inl (fun _ => 0)))), (q119, .inl (vC (mV M) 0, (6, .inl (fun _ => 0)))), (q126, .inr (2, [.int (2 : Int32), .int (1 : Int32), .int (60 : Int32), .ref q128, .int (0 : Int32), .ref q129, .ref q130, .ref q131, .int (0 : Int32), .null, .int (0 : Int32), .int (0 : Int32)])), (q128, .inl (vC (mV M) 0, (100, .inl (fun _ => 0)))), (q129, .inl (vC (mV M) 0, (10, .inl (fun _ => 0)))), (q130, .inl (vC (mV M) 0, (10, .inl (fun _ => 0)))), (q131, .inl (vC (mV M) 0, (10, .inl (fun _ => 0)))), (q143, .inr (9, [.ref q145, .int (-1 : Int32), .int (0 : Int32)])), (q145, .inl (vC (mV M) 3, (60, .inr (.inl (fun _ => 0)))))] := bZ
  clear bZ b146
  have c150 := eZ.trans c147
  clear eZ
  refine Z_iinc (v := (1 : Int32)) C dX11_init_166 0 rfl (by decide +kernel) (by rw [hN]; decide) rfl ?_
  refine Z_goto C dX11_init_169 (tgt := 147) (by decide +kernel) ?_
  refine Z_iload_n C dX11_init_147 0 rfl ?_
  refine Z_bipush C dX11_init_148 (v := (6 : Int32)) (by decide +kernel) ?_
  refine Z_icmp_ge C dX11_init_150 (tgt := 172) (by decide +kernel) (fun z => absurd z (by decide +kernel)) (fun _ => ?_)
  refine Z_aload_n C dX11_init_153 2 rfl ?_
  refine Y_get C fa_X11_init_47 b149 c150 rfl dX11_init_154 ?_
  refine Z_iload_n C dX11_init_157 0 rfl ?_
  refine Z_new (fs := [.null, .int 0, .int 0]) C hU (ci := 9) rfl (fun _ h => List.mem_cons_of_mem _ (List.mem_append_right _ h)) tyX9_ok (List.mem_of_getElem? (i := 17) rfl) (List.mem_of_getElem? (i := 30) rfl) (List.mem_of_getElem? (i := 31) rfl) dfX9 (Nat.le_of_ble_eq_true rfl) (Nat.le_of_ble_eq_true rfl) dX11_init_158 (fun q151 hq151 => ?_)
  show PR M 161 [(2, .int (1 : Int32)), (1, .ref q126), (0, .ref h)] [.ref q151, .int (1 : Int32), .ref q90] (rnew ω148 q151 (.inr (9, [.null, .int 0, .int 0]))) (64, 751)
  refine Z_dup C dX11_init_161 rfl ?_
  refine Z_ciN (rc0 := (rmr 1 1 (60))) (Qk := TB (mV M) (rnew ω148 q151 (.inr (9, [.null, .int 0, .int 0]))) q151) (b := q151) (As := []) C ki_X11_init_X9_init_75 (fun h9 => h9.2.2) hNW rfl (Nat.le_of_ble_eq_true rfl) dX11_init_162 ⟨Nat.le_of_ble_eq_true rfl, Nat.le_of_ble_eq_true rfl⟩ (k_X9_init hU (List.mem_append_right _ (List.mem_singleton.mpr rfl)) (va_up_self _ _ _) ) (fun ω152 bZ => ?_)
  obtain ⟨q153, bZ, cZ⟩ := bZ
  obtain ⟨bZ, eZ⟩ := BT_call b149 hq151 bZ cZ
  have b154 := bZ
  clear bZ b149
  have c155 := eZ.trans c150
  clear cZ eZ
  show PR M 165 [(2, .int (1 : Int32)), (1, .ref q126), (0, .ref h)] [.ref q151, .int (1 : Int32), .ref q90] ω152 (65, 811)
  refine Y_aast (k := 50) (k2 := 63) C b154 rfl rfl rfl rfl (vp_in_iff.mpr ⟨by decide +kernel, by decide +kernel⟩) dX11_init_165 (fun ω156 bZ eZ => ?_)
  have b157 : BT ω0 ω156 h [(q1, .inr (1, [.ref q3, .int (0 : Int32), .ref q4, .int (0 : Int32), .ref q5, .ref q6, .ref q7, .ref q8, .ref q9, .int (0 : Int32), .ref q126, .int (-1 : Int32), .ref q10, .ref q12, .ref q14, .ref q16, .ref q17])), (q3, .inl (vC (mV M) 4, 6, .inr (.inr (.inr (.inr (fun _ => none)))))), (q4, .inl (vC (mV M) 0, (6, .inl (fun _ => 0)))), (q5, .inl (vC (mV M) 0, (6, .inl (fun _ => 0)))), (q6, .inl (vC (mV M) 0, (6, .inl (fun _ => 0)))), (q7, .inl (vC (mV M) 0, (6, .inl (fun _ => 0)))), (q8, .inl (vC (mV M) 0, (6, .inl (fun _ => 0)))), (q9, .inl (vC (mV M) 0, (24, .inl (fun _ => 0)))), (q10, .inr (5, [.ref q11, .int (0 : Int32)])), (q11, .inl (vC (mV M) 0, (18, .inl (fun _ => 0)))), (q12, .inr (5, [.ref q13, .int (0 : Int32)])), (q13, .inl (vC (mV M) 0, (10, .inl (fun _ => 0)))), (q14, .inr (5, [.ref q15, .int (0 : Int32)])), (q15, .inl (vC (mV M) 0, (8, .inl (fun _ => 0)))), (q16, .inl (vC (mV M) 0, (6, .inl (fun _ => 0)))), (q17, .inl (vC (mV M) 0, (6, .inl (fun _ => 0)))), (q23, .inr (1, [.ref q25, .int (0 : Int32), .ref q26, .int (0 : Int32), .ref q27, .ref q28, .ref q29, .ref q30, .ref q31, .int (0 : Int32), .ref q126, .int (-1 : Int32), .ref q32, .ref q34, .ref q36, .ref q38, .ref q39])), (q25, .inl (vC (mV M) 4, 6, .inr (.inr (.inr (.inr (fun _ => none)))))), (q26, .inl (vC (mV M) 0, (6, .inl (fun _ => 0)))), (q27, .inl (vC (mV M) 0, (6, .inl (fun _ => 0)))), (q28, .inl (vC (mV M) 0, (6, .inl (fun _ => 0)))), (q29, .inl (vC (mV M) 0, (6, .inl (fun _ => 0)))), (q30, .inl (vC (mV M) 0, (6, .inl (fun _ => 0)))), (q31, .inl (vC (mV M) 0, (24, .inl (fun _ => 0)))), (q32, .inr (5, [.ref q33, .int (0 : Int32)])), (q33, .inl (vC (mV M) 0, (18, .inl (fun _ => 0)))), (q34, .inr (5, [.ref q35, .int (0 : Int32)])), (q35, .inl (vC (mV M) 0, (10, .inl (fun _ => 0)))), (q36, .inr (5, [.ref q37, .int (0 : Int32)])), (q37, .inl (vC (mV M) 0, (8, .inl (fun _ => 0)))), (q38, .inl (vC (mV M) 0, (6, .inl (fun _ => 0)))), (q39, .inl (vC (mV M) 0, (6, .inl (fun _ => 0)))), (q45, .inr (1, [.ref q47, .int (0 : Int32), .ref q48, .int (0 : Int32), .ref q49, .ref q50, .ref q51, .ref q52, .ref q53, .int (0 : Int32), .ref q126, .int (-1 : Int32), .ref q54, .ref q56, .ref q58, .ref q60, .ref q61])), (q47, .inl (vC (mV M) 4, 6, .inr (.inr (.inr (.inr (fun _ => none)))))), (q48, .inl (vC (mV M) 0, (6, .inl (fun _ => 0)))), (q49, .inl (vC (mV M) 0, (6, .inl (fun _ => 0)))), (q50, .inl (vC (mV M) 0, (6, .inl (fun _ => 0)))), (q51, .inl (vC (mV M) 0, (6, .inl (fun _ => 0)))), (q52, .inl (vC (mV M) 0, (6, .inl (fun _ => 0)))), (q53, .inl (vC (mV M) 0, (24, .inl (fun _ => 0)))), (q54, .inr (5, [.ref q55, .int (0 : Int32)])), (q55, .inl (vC (mV M) 0, (18, .inl (fun _ => 0)))), (q56, .inr (5, [.ref q57, .int (0 : Int32)])), (q57, .inl (vC (mV M) 0, (10, .inl (fun _ => 0)))), (q58, .inr (5, [.ref q59, .int (0 : Int32)])), (q59, .inl (vC (mV M) 0, (8, .inl (fun _ => 0)))), (q60, .inl (vC (mV M) 0, (6, .inl (fun _ => 0)))), (q61, .inl (vC (mV M) 0, (6, .inl (fun _ => 0)))), (q70, .inl (vC (mV M) 5, 6, .inr (.inr (.inr (.inr (fun _ => none)))))), (q80, .inl (vC (mV M) 1, (100, .inl (fun _ => 0)))), (q90, .inl (vC (mV M) 6, 6, .inr (.inr (.inr (.inr (va_up (va_up (fun _ => none) 0 (some q143)) 1 (some q151))))))), (q97, .inr (5, [.ref q99, .int (0 : Int32)])), (q99, .inl (vC (mV M) 0, (20, .inl (fun _ => 0)))), (q105, .inl (vC (mV M) 0, (5, .inl (fun _ => 0)))), (q112, .inl (vC (mV M) 0, (5, .inl (fun _ => 0)))), (q119, .inl (vC (mV M) 0, (6, .inl (fun _ => 0)))), (q126, .inr (2, [.int (2 : Int32), .int (1 : Int32), .int (60 : Int32), .ref q128, .int (0 : Int32), .ref q129, .ref q130, .ref q131, .int (0 : Int32), .null, .int (0 : Int32), .int (0 : Int32)])), (q128, .inl (vC (mV M) 0, (100, .inl (fun _ => 0)))), (q129, .inl (vC (mV M) 0, (10, .inl (fun _ => 0)))), (q130, .inl (vC (mV M) 0, (10, .inl (fun _ => 0)))), (q131, .inl (vC (mV M) 0, (10, .inl (fun _ => 0)))), (q143, .inr (9, [.ref q145, .int (-1 : Int32), .int (0 : Int32)])), (q145, .inl (vC (mV M) 3, (60, .inr (.inl (fun _ => 0))))), (q151, .inr (9, [.ref q153, .int (-1 : Int32), .int (0 : Int32)])), (q153, .inl (vC (mV M) 3, (60, .inr (.inl (fun _ => 0)))))] := bZ
  clear bZ b154
  have c158 := eZ.trans c155
  clear eZ
  refine Z_iinc (v := (2 : Int32)) C dX11_init_166 0 rfl (by decide +kernel) (by rw [hN]; decide) rfl ?_
  refine Z_goto C dX11_init_169 (tgt := 147) (by decide +kernel) ?_
  refine Z_iload_n C dX11_init_147 0 rfl ?_
  refine Z_bipush C dX11_init_148 (v := (6 : Int32)) (by decide +kernel) ?_
  refine Z_icmp_ge C dX11_init_150 (tgt := 172) (by decide +kernel) (fun z => absurd z (by decide +kernel)) (fun _ => ?_)
  refine Z_aload_n C dX11_init_153 2 rfl ?_
  refine Y_get C fa_X11_init_47 b157 c158 rfl dX11_init_154 ?_
  refine Z_iload_n C dX11_init_157 0 rfl ?_
  refine Z_new (fs := [.null, .int 0, .int 0]) C hU (ci := 9) rfl (fun _ h => List.mem_cons_of_mem _ (List.mem_append_right _ h)) tyX9_ok (List.mem_of_getElem? (i := 17) rfl) (List.mem_of_getElem? (i := 30) rfl) (List.mem_of_getElem? (i := 31) rfl) dfX9 (Nat.le_of_ble_eq_true rfl) (Nat.le_of_ble_eq_true rfl) dX11_init_158 (fun q159 hq159 => ?_)
  show PR M 161 [(2, .int (2 : Int32)), (1, .ref q126), (0, .ref h)] [.ref q159, .int (2 : Int32), .ref q90] (rnew ω156 q159 (.inr (9, [.null, .int 0, .int 0]))) (66, 814)
  refine Z_dup C dX11_init_161 rfl ?_
  refine Z_ciN (rc0 := (rmr 1 1 (60))) (Qk := TB (mV M) (rnew ω156 q159 (.inr (9, [.null, .int 0, .int 0]))) q159) (b := q159) (As := []) C ki_X11_init_X9_init_75 (fun h9 => h9.2.2) hNW rfl (Nat.le_of_ble_eq_true rfl) dX11_init_162 ⟨Nat.le_of_ble_eq_true rfl, Nat.le_of_ble_eq_true rfl⟩ (k_X9_init hU (List.mem_append_right _ (List.mem_singleton.mpr rfl)) (va_up_self _ _ _) ) (fun ω160 bZ => ?_)
  obtain ⟨q161, bZ, cZ⟩ := bZ
  obtain ⟨bZ, eZ⟩ := BT_call b157 hq159 bZ cZ
  have b162 := bZ
  clear bZ b157
  have c163 := eZ.trans c158
  clear cZ eZ
  show PR M 165 [(2, .int (2 : Int32)), (1, .ref q126), (0, .ref h)] [.ref q159, .int (2 : Int32), .ref q90] ω160 (67, 874)
  refine Y_aast (k := 50) (k2 := 65) C b162 rfl rfl rfl rfl (vp_in_iff.mpr ⟨by decide +kernel, by decide +kernel⟩) dX11_init_165 (fun ω164 bZ eZ => ?_)
  have b165 : BT ω0 ω164 h [(q1, .inr (1, [.ref q3, .int (0 : Int32), .ref q4, .int (0 : Int32), .ref q5, .ref q6, .ref q7, .ref q8, .ref q9, .int (0 : Int32), .ref q126, .int (-1 : Int32), .ref q10, .ref q12, .ref q14, .ref q16, .ref q17])), (q3, .inl (vC (mV M) 4, 6, .inr (.inr (.inr (.inr (fun _ => none)))))), (q4, .inl (vC (mV M) 0, (6, .inl (fun _ => 0)))), (q5, .inl (vC (mV M) 0, (6, .inl (fun _ => 0)))), (q6, .inl (vC (mV M) 0, (6, .inl (fun _ => 0)))), (q7, .inl (vC (mV M) 0, (6, .inl (fun _ => 0)))), (q8, .inl (vC (mV M) 0, (6, .inl (fun _ => 0)))), (q9, .inl (vC (mV M) 0, (24, .inl (fun _ => 0)))), (q10, .inr (5, [.ref q11, .int (0 : Int32)])), (q11, .inl (vC (mV M) 0, (18, .inl (fun _ => 0)))), (q12, .inr (5, [.ref q13, .int (0 : Int32)])), (q13, .inl (vC (mV M) 0, (10, .inl (fun _ => 0)))), (q14, .inr (5, [.ref q15, .int (0 : Int32)])), (q15, .inl (vC (mV M) 0, (8, .inl (fun _ => 0)))), (q16, .inl (vC (mV M) 0, (6, .inl (fun _ => 0)))), (q17, .inl (vC (mV M) 0, (6, .inl (fun _ => 0)))), (q23, .inr (1, [.ref q25, .int (0 : Int32), .ref q26, .int (0 : Int32), .ref q27, .ref q28, .ref q29, .ref q30, .ref q31, .int (0 : Int32), .ref q126, .int (-1 : Int32), .ref q32, .ref q34, .ref q36, .ref q38, .ref q39])), (q25, .inl (vC (mV M) 4, 6, .inr (.inr (.inr (.inr (fun _ => none)))))), (q26, .inl (vC (mV M) 0, (6, .inl (fun _ => 0)))), (q27, .inl (vC (mV M) 0, (6, .inl (fun _ => 0)))), (q28, .inl (vC (mV M) 0, (6, .inl (fun _ => 0)))), (q29, .inl (vC (mV M) 0, (6, .inl (fun _ => 0)))), (q30, .inl (vC (mV M) 0, (6, .inl (fun _ => 0)))), (q31, .inl (vC (mV M) 0, (24, .inl (fun _ => 0)))), (q32, .inr (5, [.ref q33, .int (0 : Int32)])), (q33, .inl (vC (mV M) 0, (18, .inl (fun _ => 0)))), (q34, .inr (5, [.ref q35, .int (0 : Int32)])), (q35, .inl (vC (mV M) 0, (10, .inl (fun _ => 0)))), (q36, .inr (5, [.ref q37, .int (0 : Int32)])), (q37, .inl (vC (mV M) 0, (8, .inl (fun _ => 0)))), (q38, .inl (vC (mV M) 0, (6, .inl (fun _ => 0)))), (q39, .inl (vC (mV M) 0, (6, .inl (fun _ => 0)))), (q45, .inr (1, [.ref q47, .int (0 : Int32), .ref q48, .int (0 : Int32), .ref q49, .ref q50, .ref q51, .ref q52, .ref q53, .int (0 : Int32), .ref q126, .int (-1 : Int32), .ref q54, .ref q56, .ref q58, .ref q60, .ref q61])), (q47, .inl (vC (mV M) 4, 6, .inr (.inr (.inr (.inr (fun _ => none)))))), (q48, .inl (vC (mV M) 0, (6, .inl (fun _ => 0)))), (q49, .inl (vC (mV M) 0, (6, .inl (fun _ => 0)))), (q50, .inl (vC (mV M) 0, (6, .inl (fun _ => 0)))), (q51, .inl (vC (mV M) 0, (6, .inl (fun _ => 0)))), (q52, .inl (vC (mV M) 0, (6, .inl (fun _ => 0)))), (q53, .inl (vC (mV M) 0, (24, .inl (fun _ => 0)))), (q54, .inr (5, [.ref q55, .int (0 : Int32)])), (q55, .inl (vC (mV M) 0, (18, .inl (fun _ => 0)))), (q56, .inr (5, [.ref q57, .int (0 : Int32)])), (q57, .inl (vC (mV M) 0, (10, .inl (fun _ => 0)))), (q58, .inr (5, [.ref q59, .int (0 : Int32)])), (q59, .inl (vC (mV M) 0, (8, .inl (fun _ => 0)))), (q60, .inl (vC (mV M) 0, (6, .inl (fun _ => 0)))), (q61, .inl (vC (mV M) 0, (6, .inl (fun _ => 0)))), (q70, .inl (vC (mV M) 5, 6, .inr (.inr (.inr (.inr (fun _ => none)))))), (q80, .inl (vC (mV M) 1, (100, .inl (fun _ => 0)))), (q90, .inl (vC (mV M) 6, 6, .inr (.inr (.inr (.inr (va_up (va_up (va_up (fun _ => none) 0 (some q143)) 1 (some q151)) 2 (some q159))))))), (q97, .inr (5, [.ref q99, .int (0 : Int32)])), (q99, .inl (vC (mV M) 0, (20, .inl (fun _ => 0)))), (q105, .inl (vC (mV M) 0, (5, .inl (fun _ => 0)))), (q112, .inl (vC (mV M) 0, (5, .inl (fun _ => 0)))), (q119, .inl (vC (mV M) 0, (6, .inl (fun _ => 0)))), (q126, .inr (2, [.int (2 : Int32), .int (1 : Int32), .int (60 : Int32), .ref q128, .int (0 : Int32), .ref q129, .ref q130, .ref q131, .int (0 : Int32), .null, .int (0 : Int32), .int (0 : Int32)])), (q128, .inl (vC (mV M) 0, (100, .inl (fun _ => 0)))), (q129, .inl (vC (mV M) 0, (10, .inl (fun _ => 0)))), (q130, .inl (vC (mV M) 0, (10, .inl (fun _ => 0)))), (q131, .inl (vC (mV M) 0, (10, .inl (fun _ => 0)))), (q143, .inr (9, [.ref q145, .int (-1 : Int32), .int (0 : Int32)])), (q145, .inl (vC (mV M) 3, (60, .inr (.inl (fun _ => 0))))), (q151, .inr (9, [.ref q153, .int (-1 : Int32), .int (0 : Int32)])), (q153, .inl (vC (mV M) 3, (60, .inr (.inl (fun _ => 0))))), (q159, .inr (9, [.ref q161, .int (-1 : Int32), .int (0 : Int32)])), (q161, .inl (vC (mV M) 3, (60, .inr (.inl (fun _ => 0)))))] := bZ
  clear bZ b162
  have c166 := eZ.trans c163
  clear eZ
  refine Z_iinc (v := (3 : Int32)) C dX11_init_166 0 rfl (by decide +kernel) (by rw [hN]; decide) rfl ?_
  refine Z_goto C dX11_init_169 (tgt := 147) (by decide +kernel) ?_
  refine Z_iload_n C dX11_init_147 0 rfl ?_
  refine Z_bipush C dX11_init_148 (v := (6 : Int32)) (by decide +kernel) ?_
  refine Z_icmp_ge C dX11_init_150 (tgt := 172) (by decide +kernel) (fun z => absurd z (by decide +kernel)) (fun _ => ?_)
  refine Z_aload_n C dX11_init_153 2 rfl ?_
  refine Y_get C fa_X11_init_47 b165 c166 rfl dX11_init_154 ?_
  refine Z_iload_n C dX11_init_157 0 rfl ?_
  refine Z_new (fs := [.null, .int 0, .int 0]) C hU (ci := 9) rfl (fun _ h => List.mem_cons_of_mem _ (List.mem_append_right _ h)) tyX9_ok (List.mem_of_getElem? (i := 17) rfl) (List.mem_of_getElem? (i := 30) rfl) (List.mem_of_getElem? (i := 31) rfl) dfX9 (Nat.le_of_ble_eq_true rfl) (Nat.le_of_ble_eq_true rfl) dX11_init_158 (fun q167 hq167 => ?_)
  show PR M 161 [(2, .int (3 : Int32)), (1, .ref q126), (0, .ref h)] [.ref q167, .int (3 : Int32), .ref q90] (rnew ω164 q167 (.inr (9, [.null, .int 0, .int 0]))) (68, 877)
  refine Z_dup C dX11_init_161 rfl ?_
  refine Z_ciN (rc0 := (rmr 1 1 (60))) (Qk := TB (mV M) (rnew ω164 q167 (.inr (9, [.null, .int 0, .int 0]))) q167) (b := q167) (As := []) C ki_X11_init_X9_init_75 (fun h9 => h9.2.2) hNW rfl (Nat.le_of_ble_eq_true rfl) dX11_init_162 ⟨Nat.le_of_ble_eq_true rfl, Nat.le_of_ble_eq_true rfl⟩ (k_X9_init hU (List.mem_append_right _ (List.mem_singleton.mpr rfl)) (va_up_self _ _ _) ) (fun ω168 bZ => ?_)
  obtain ⟨q169, bZ, cZ⟩ := bZ
  obtain ⟨bZ, eZ⟩ := BT_call b165 hq167 bZ cZ
  have b170 := bZ
  clear bZ b165
  have c171 := eZ.trans c166
  clear cZ eZ
  show PR M 165 [(2, .int (3 : Int32)), (1, .ref q126), (0, .ref h)] [.ref q167, .int (3 : Int32), .ref q90] ω168 (69, 937)
  refine Y_aast (k := 50) (k2 := 67) C b170 rfl rfl rfl rfl (vp_in_iff.mpr ⟨by decide +kernel, by decide +kernel⟩) dX11_init_165 (fun ω172 bZ eZ => ?_)
  have b173 : BT ω0 ω172 h [(q1, .inr (1, [.ref q3, .int (0 : Int32), .ref q4, .int (0 : Int32), .ref q5, .ref q6, .ref q7, .ref q8, .ref q9, .int (0 : Int32), .ref q126, .int (-1 : Int32), .ref q10, .ref q12, .ref q14, .ref q16, .ref q17])), (q3, .inl (vC (mV M) 4, 6, .inr (.inr (.inr (.inr (fun _ => none)))))), (q4, .inl (vC (mV M) 0, (6, .inl (fun _ => 0)))), (q5, .inl (vC (mV M) 0, (6, .inl (fun _ => 0)))), (q6, .inl (vC (mV M) 0, (6, .inl (fun _ => 0)))), (q7, .inl (vC (mV M) 0, (6, .inl (fun _ => 0)))), (q8, .inl (vC (mV M) 0, (6, .inl (fun _ => 0)))), (q9, .inl (vC (mV M) 0, (24, .inl (fun _ => 0)))), (q10, .inr (5, [.ref q11, .int (0 : Int32)])), (q11, .inl (vC (mV M) 0, (18, .inl (fun _ => 0)))), (q12, .inr (5, [.ref q13, .int (0 : Int32)])), (q13, .inl (vC (mV M) 0, (10, .inl (fun _ => 0)))), (q14, .inr (5, [.ref q15, .int (0 : Int32)])), (q15, .inl (vC (mV M) 0, (8, .inl (fun _ => 0)))), (q16, .inl (vC (mV M) 0, (6, .inl (fun _ => 0)))), (q17, .inl (vC (mV M) 0, (6, .inl (fun _ => 0)))), (q23, .inr (1, [.ref q25, .int (0 : Int32), .ref q26, .int (0 : Int32), .ref q27, .ref q28, .ref q29, .ref q30, .ref q31, .int (0 : Int32), .ref q126, .int (-1 : Int32), .ref q32, .ref q34, .ref q36, .ref q38, .ref q39])), (q25, .inl (vC (mV M) 4, 6, .inr (.inr (.inr (.inr (fun _ => none)))))), (q26, .inl (vC (mV M) 0, (6, .inl (fun _ => 0)))), (q27, .inl (vC (mV M) 0, (6, .inl (fun _ => 0)))), (q28, .inl (vC (mV M) 0, (6, .inl (fun _ => 0)))), (q29, .inl (vC (mV M) 0, (6, .inl (fun _ => 0)))), (q30, .inl (vC (mV M) 0, (6, .inl (fun _ => 0)))), (q31, .inl (vC (mV M) 0, (24, .inl (fun _ => 0)))), (q32, .inr (5, [.ref q33, .int (0 : Int32)])), (q33, .inl (vC (mV M) 0, (18, .inl (fun _ => 0)))), (q34, .inr (5, [.ref q35, .int (0 : Int32)])), (q35, .inl (vC (mV M) 0, (10, .inl (fun _ => 0)))), (q36, .inr (5, [.ref q37, .int (0 : Int32)])), (q37, .inl (vC (mV M) 0, (8, .inl (fun _ => 0)))), (q38, .inl (vC (mV M) 0, (6, .inl (fun _ => 0)))), (q39, .inl (vC (mV M) 0, (6, .inl (fun _ => 0)))), (q45, .inr (1, [.ref q47, .int (0 : Int32), .ref q48, .int (0 : Int32), .ref q49, .ref q50, .ref q51, .ref q52, .ref q53, .int (0 : Int32), .ref q126, .int (-1 : Int32), .ref q54, .ref q56, .ref q58, .ref q60, .ref q61])), (q47, .inl (vC (mV M) 4, 6, .inr (.inr (.inr (.inr (fun _ => none)))))), (q48, .inl (vC (mV M) 0, (6, .inl (fun _ => 0)))), (q49, .inl (vC (mV M) 0, (6, .inl (fun _ => 0)))), (q50, .inl (vC (mV M) 0, (6, .inl (fun _ => 0)))), (q51, .inl (vC (mV M) 0, (6, .inl (fun _ => 0)))), (q52, .inl (vC (mV M) 0, (6, .inl (fun _ => 0)))), (q53, .inl (vC (mV M) 0, (24, .inl (fun _ => 0)))), (q54, .inr (5, [.ref q55, .int (0 : Int32)])), (q55, .inl (vC (mV M) 0, (18, .inl (fun _ => 0)))), (q56, .inr (5, [.ref q57, .int (0 : Int32)])), (q57, .inl (vC (mV M) 0, (10, .inl (fun _ => 0)))), (q58, .inr (5, [.ref q59, .int (0 : Int32)])), (q59, .inl (vC (mV M) 0, (8, .inl (fun _ => 0)))), (q60, .inl (vC (mV M) 0, (6, .inl (fun _ => 0)))), (q61, .inl (vC (mV M) 0, (6, .inl (fun _ => 0)))), (q70, .inl (vC (mV M) 5, 6, .inr (.inr (.inr (.inr (fun _ => none)))))), (q80, .inl (vC (mV M) 1, (100, .inl (fun _ => 0)))), (q90, .inl (vC (mV M) 6, 6, .inr (.inr (.inr (.inr (va_up (va_up (va_up (va_up (fun _ => none) 0 (some q143)) 1 (some q151)) 2 (some q159)) 3 (some q167))))))), (q97, .inr (5, [.ref q99, .int (0 : Int32)])), (q99, .inl (vC (mV M) 0, (20, .inl (fun _ => 0)))), (q105, .inl (vC (mV M) 0, (5, .inl (fun _ => 0)))), (q112, .inl (vC (mV M) 0, (5, .inl (fun _ => 0)))), (q119, .inl (vC (mV M) 0, (6, .inl (fun _ => 0)))), (q126, .inr (2, [.int (2 : Int32), .int (1 : Int32), .int (60 : Int32), .ref q128, .int (0 : Int32), .ref q129, .ref q130, .ref q131, .int (0 : Int32), .null, .int (0 : Int32), .int (0 : Int32)])), (q128, .inl (vC (mV M) 0, (100, .inl (fun _ => 0)))), (q129, .inl (vC (mV M) 0, (10, .inl (fun _ => 0)))), (q130, .inl (vC (mV M) 0, (10, .inl (fun _ => 0)))), (q131, .inl (vC (mV M) 0, (10, .inl (fun _ => 0)))), (q143, .inr (9, [.ref q145, .int (-1 : Int32), .int (0 : Int32)])), (q145, .inl (vC (mV M) 3, (60, .inr (.inl (fun _ => 0))))), (q151, .inr (9, [.ref q153, .int (-1 : Int32), .int (0 : Int32)])), (q153, .inl (vC (mV M) 3, (60, .inr (.inl (fun _ => 0))))), (q159, .inr (9, [.ref q161, .int (-1 : Int32), .int (0 : Int32)])), (q161, .inl (vC (mV M) 3, (60, .inr (.inl (fun _ => 0))))), (q167, .inr (9, [.ref q169, .int (-1 : Int32), .int (0 : Int32)])), (q169, .inl (vC (mV M) 3, (60, .inr (.inl (fun _ => 0)))))] := bZ
  clear bZ b170
  have c174 := eZ.trans c171
  clear eZ
  refine Z_iinc (v := (4 : Int32)) C dX11_init_166 0 rfl (by decide +kernel) (by rw [hN]; decide) rfl ?_
  refine Z_goto C dX11_init_169 (tgt := 147) (by decide +kernel) ?_
  refine Z_iload_n C dX11_init_147 0 rfl ?_
  refine Z_bipush C dX11_init_148 (v := (6 : Int32)) (by decide +kernel) ?_
  refine Z_icmp_ge C dX11_init_150 (tgt := 172) (by decide +kernel) (fun z => absurd z (by decide +kernel)) (fun _ => ?_)
  refine Z_aload_n C dX11_init_153 2 rfl ?_
  refine Y_get C fa_X11_init_47 b173 c174 rfl dX11_init_154 ?_
  refine Z_iload_n C dX11_init_157 0 rfl ?_
  refine Z_new (fs := [.null, .int 0, .int 0]) C hU (ci := 9) rfl (fun _ h => List.mem_cons_of_mem _ (List.mem_append_right _ h)) tyX9_ok (List.mem_of_getElem? (i := 17) rfl) (List.mem_of_getElem? (i := 30) rfl) (List.mem_of_getElem? (i := 31) rfl) dfX9 (Nat.le_of_ble_eq_true rfl) (Nat.le_of_ble_eq_true rfl) dX11_init_158 (fun q175 hq175 => ?_)
  show PR M 161 [(2, .int (4 : Int32)), (1, .ref q126), (0, .ref h)] [.ref q175, .int (4 : Int32), .ref q90] (rnew ω172 q175 (.inr (9, [.null, .int 0, .int 0]))) (70, 940)
  refine Z_dup C dX11_init_161 rfl ?_
  refine Z_ciN (rc0 := (rmr 1 1 (60))) (Qk := TB (mV M) (rnew ω172 q175 (.inr (9, [.null, .int 0, .int 0]))) q175) (b := q175) (As := []) C ki_X11_init_X9_init_75 (fun h9 => h9.2.2) hNW rfl (Nat.le_of_ble_eq_true rfl) dX11_init_162 ⟨Nat.le_of_ble_eq_true rfl, Nat.le_of_ble_eq_true rfl⟩ (k_X9_init hU (List.mem_append_right _ (List.mem_singleton.mpr rfl)) (va_up_self _ _ _) ) (fun ω176 bZ => ?_)
  obtain ⟨q177, bZ, cZ⟩ := bZ
  obtain ⟨bZ, eZ⟩ := BT_call b173 hq175 bZ cZ
  have b178 := bZ
  clear bZ b173
  have c179 := eZ.trans c174
  clear cZ eZ
  show PR M 165 [(2, .int (4 : Int32)), (1, .ref q126), (0, .ref h)] [.ref q175, .int (4 : Int32), .ref q90] ω176 (71, 1000)
  refine Y_aast (k := 50) (k2 := 69) C b178 rfl rfl rfl rfl (vp_in_iff.mpr ⟨by decide +kernel, by decide +kernel⟩) dX11_init_165 (fun ω180 bZ eZ => ?_)
  have b181 : BT ω0 ω180 h [(q1, .inr (1, [.ref q3, .int (0 : Int32), .ref q4, .int (0 : Int32), .ref q5, .ref q6, .ref q7, .ref q8, .ref q9, .int (0 : Int32), .ref q126, .int (-1 : Int32), .ref q10, .ref q12, .ref q14, .ref q16, .ref q17])), (q3, .inl (vC (mV M) 4, 6, .inr (.inr (.inr (.inr (fun _ => none)))))), (q4, .inl (vC (mV M) 0, (6, .inl (fun _ => 0)))), (q5, .inl (vC (mV M) 0, (6, .inl (fun _ => 0)))), (q6, .inl (vC (mV M) 0, (6, .inl (fun _ => 0)))), (q7, .inl (vC (mV M) 0, (6, .inl (fun _ => 0)))), (q8, .inl (vC (mV M) 0, (6, .inl (fun _ => 0)))), (q9, .inl (vC (mV M) 0, (24, .inl (fun _ => 0)))), (q10, .inr (5, [.ref q11, .int (0 : Int32)])), (q11, .inl (vC (mV M) 0, (18, .inl (fun _ => 0)))), (q12, .inr (5, [.ref q13, .int (0 : Int32)])), (q13, .inl (vC (mV M) 0, (10, .inl (fun _ => 0)))), (q14, .inr (5, [.ref q15, .int (0 : Int32)])), (q15, .inl (vC (mV M) 0, (8, .inl (fun _ => 0)))), (q16, .inl (vC (mV M) 0, (6, .inl (fun _ => 0)))), (q17, .inl (vC (mV M) 0, (6, .inl (fun _ => 0)))), (q23, .inr (1, [.ref q25, .int (0 : Int32), .ref q26, .int (0 : Int32), .ref q27, .ref q28, .ref q29, .ref q30, .ref q31, .int (0 : Int32), .ref q126, .int (-1 : Int32), .ref q32, .ref q34, .ref q36, .ref q38, .ref q39])), (q25, .inl (vC (mV M) 4, 6, .inr (.inr (.inr (.inr (fun _ => none)))))), (q26, .inl (vC (mV M) 0, (6, .inl (fun _ => 0)))), (q27, .inl (vC (mV M) 0, (6, .inl (fun _ => 0)))), (q28, .inl (vC (mV M) 0, (6, .inl (fun _ => 0)))), (q29, .inl (vC (mV M) 0, (6, .inl (fun _ => 0)))), (q30, .inl (vC (mV M) 0, (6, .inl (fun _ => 0)))), (q31, .inl (vC (mV M) 0, (24, .inl (fun _ => 0)))), (q32, .inr (5, [.ref q33, .int (0 : Int32)])), (q33, .inl (vC (mV M) 0, (18, .inl (fun _ => 0)))), (q34, .inr (5, [.ref q35, .int (0 : Int32)])), (q35, .inl (vC (mV M) 0, (10, .inl (fun _ => 0)))), (q36, .inr (5, [.ref q37, .int (0 : Int32)])), (q37, .inl (vC (mV M) 0, (8, .inl (fun _ => 0)))), (q38, .inl (vC (mV M) 0, (6, .inl (fun _ => 0)))), (q39, .inl (vC (mV M) 0, (6, .inl (fun _ => 0)))), (q45, .inr (1, [.ref q47, .int (0 : Int32), .ref q48, .int (0 : Int32), .ref q49, .ref q50, .ref q51, .ref q52, .ref q53, .int (0 : Int32), .ref q126, .int (-1 : Int32), .ref q54, .ref q56, .ref q58, .ref q60, .ref q61])), (q47, .inl (vC (mV M) 4, 6, .inr (.inr (.inr (.inr (fun _ => none)))))), (q48, .inl (vC (mV M) 0, (6, .inl (fun _ => 0)))), (q49, .inl (vC (mV M) 0, (6, .inl (fun _ => 0)))), (q50, .inl (vC (mV M) 0, (6, .inl (fun _ => 0)))), (q51, .inl (vC (mV M) 0, (6, .inl (fun _ => 0)))), (q52, .inl (vC (mV M) 0, (6, .inl (fun _ => 0)))), (q53, .inl (vC (mV M) 0, (24, .inl (fun _ => 0)))), (q54, .inr (5, [.ref q55, .int (0 : Int32)])), (q55, .inl (vC (mV M) 0, (18, .inl (fun _ => 0)))), (q56, .inr (5, [.ref q57, .int (0 : Int32)])), (q57, .inl (vC (mV M) 0, (10, .inl (fun _ => 0)))), (q58, .inr (5, [.ref q59, .int (0 : Int32)])), (q59, .inl (vC (mV M) 0, (8, .inl (fun _ => 0)))), (q60, .inl (vC (mV M) 0, (6, .inl (fun _ => 0)))), (q61, .inl (vC (mV M) 0, (6, .inl (fun _ => 0)))), (q70, .inl (vC (mV M) 5, 6, .inr (.inr (.inr (.inr (fun _ => none)))))), (q80, .inl (vC (mV M) 1, (100, .inl (fun _ => 0)))), (q90, .inl (vC (mV M) 6, 6, .inr (.inr (.inr (.inr (va_up (va_up (va_up (va_up (va_up (fun _ => none) 0 (some q143)) 1 (some q151)) 2 (some q159)) 3 (some q167)) 4 (some q175))))))), (q97, .inr (5, [.ref q99, .int (0 : Int32)])), (q99, .inl (vC (mV M) 0, (20, .inl (fun _ => 0)))), (q105, .inl (vC (mV M) 0, (5, .inl (fun _ => 0)))), (q112, .inl (vC (mV M) 0, (5, .inl (fun _ => 0)))), (q119, .inl (vC (mV M) 0, (6, .inl (fun _ => 0)))), (q126, .inr (2, [.int (2 : Int32), .int (1 : Int32), .int (60 : Int32), .ref q128, .int (0 : Int32), .ref q129, .ref q130, .ref q131, .int (0 : Int32), .null, .int (0 : Int32), .int (0 : Int32)])), (q128, .inl (vC (mV M) 0, (100, .inl (fun _ => 0)))), (q129, .inl (vC (mV M) 0, (10, .inl (fun _ => 0)))), (q130, .inl (vC (mV M) 0, (10, .inl (fun _ => 0)))), (q131, .inl (vC (mV M) 0, (10, .inl (fun _ => 0)))), (q143, .inr (9, [.ref q145, .int (-1 : Int32), .int (0 : Int32)])), (q145, .inl (vC (mV M) 3, (60, .inr (.inl (fun _ => 0))))), (q151, .inr (9, [.ref q153, .int (-1 : Int32), .int (0 : Int32)])), (q153, .inl (vC (mV M) 3, (60, .inr (.inl (fun _ => 0))))), (q159, .inr (9, [.ref q161, .int (-1 : Int32), .int (0 : Int32)])), (q161, .inl (vC (mV M) 3, (60, .inr (.inl (fun _ => 0))))), (q167, .inr (9, [.ref q169, .int (-1 : Int32), .int (0 : Int32)])), (q169, .inl (vC (mV M) 3, (60, .inr (.inl (fun _ => 0))))), (q175, .inr (9, [.ref q177, .int (-1 : Int32), .int (0 : Int32)])), (q177, .inl (vC (mV M) 3, (60, .inr (.inl (fun _ => 0)))))] := bZ
  clear bZ b178
  have c182 := eZ.trans c179
  clear eZ
  refine Z_iinc (v := (5 : Int32)) C dX11_init_166 0 rfl (by decide +kernel) (by rw [hN]; decide) rfl ?_
  refine Z_goto C dX11_init_169 (tgt := 147) (by decide +kernel) ?_
  refine Z_iload_n C dX11_init_147 0 rfl ?_
  refine Z_bipush C dX11_init_148 (v := (6 : Int32)) (by decide +kernel) ?_
  refine Z_icmp_ge C dX11_init_150 (tgt := 172) (by decide +kernel) (fun z => absurd z (by decide +kernel)) (fun _ => ?_)
  refine Z_aload_n C dX11_init_153 2 rfl ?_
  refine Y_get C fa_X11_init_47 b181 c182 rfl dX11_init_154 ?_
  refine Z_iload_n C dX11_init_157 0 rfl ?_
  refine Z_new (fs := [.null, .int 0, .int 0]) C hU (ci := 9) rfl (fun _ h => List.mem_cons_of_mem _ (List.mem_append_right _ h)) tyX9_ok (List.mem_of_getElem? (i := 17) rfl) (List.mem_of_getElem? (i := 30) rfl) (List.mem_of_getElem? (i := 31) rfl) dfX9 (Nat.le_of_ble_eq_true rfl) (Nat.le_of_ble_eq_true rfl) dX11_init_158 (fun q183 hq183 => ?_)
  show PR M 161 [(2, .int (5 : Int32)), (1, .ref q126), (0, .ref h)] [.ref q183, .int (5 : Int32), .ref q90] (rnew ω180 q183 (.inr (9, [.null, .int 0, .int 0]))) (72, 1003)
  refine Z_dup C dX11_init_161 rfl ?_
  refine Z_ciN (rc0 := (rmr 1 1 (60))) (Qk := TB (mV M) (rnew ω180 q183 (.inr (9, [.null, .int 0, .int 0]))) q183) (b := q183) (As := []) C ki_X11_init_X9_init_75 (fun h9 => h9.2.2) hNW rfl (Nat.le_of_ble_eq_true rfl) dX11_init_162 ⟨Nat.le_of_ble_eq_true rfl, Nat.le_of_ble_eq_true rfl⟩ (k_X9_init hU (List.mem_append_right _ (List.mem_singleton.mpr rfl)) (va_up_self _ _ _) ) (fun ω184 bZ => ?_)
  obtain ⟨q185, bZ, cZ⟩ := bZ
  obtain ⟨bZ, eZ⟩ := BT_call b181 hq183 bZ cZ
  have b186 := bZ
  clear bZ b181
  have c187 := eZ.trans c182
  clear cZ eZ
  show PR M 165 [(2, .int (5 : Int32)), (1, .ref q126), (0, .ref h)] [.ref q183, .int (5 : Int32), .ref q90] ω184 (73, 1063)
  refine Y_aast (k := 50) (k2 := 71) C b186 rfl rfl rfl rfl (vp_in_iff.mpr ⟨by decide +kernel, by decide +kernel⟩) dX11_init_165 (fun ω188 bZ eZ => ?_)
  have b189 : BT ω0 ω188 h [(q1, .inr (1, [.ref q3, .int (0 : Int32), .ref q4, .int (0 : Int32), .ref q5, .ref q6, .ref q7, .ref q8, .ref q9, .int (0 : Int32), .ref q126, .int (-1 : Int32), .ref q10, .ref q12, .ref q14, .ref q16, .ref q17])), (q3, .inl (vC (mV M) 4, 6, .inr (.inr (.inr (.inr (fun _ => none)))))), (q4, .inl (vC (mV M) 0, (6, .inl (fun _ => 0)))), (q5, .inl (vC (mV M) 0, (6, .inl (fun _ => 0)))), (q6, .inl (vC (mV M) 0, (6, .inl (fun _ => 0)))), (q7, .inl (vC (mV M) 0, (6, .inl (fun _ => 0)))), (q8, .inl (vC (mV M) 0, (6, .inl (fun _ => 0)))), (q9, .inl (vC (mV M) 0, (24, .inl (fun _ => 0)))), (q10, .inr (5, [.ref q11, .int (0 : Int32)])), (q11, .inl (vC (mV M) 0, (18, .inl (fun _ => 0)))), (q12, .inr (5, [.ref q13, .int (0 : Int32)])), (q13, .inl (vC (mV M) 0, (10, .inl (fun _ => 0)))), (q14, .inr (5, [.ref q15, .int (0 : Int32)])), (q15, .inl (vC (mV M) 0, (8, .inl (fun _ => 0)))), (q16, .inl (vC (mV M) 0, (6, .inl (fun _ => 0)))), (q17, .inl (vC (mV M) 0, (6, .inl (fun _ => 0)))), (q23, .inr (1, [.ref q25, .int (0 : Int32), .ref q26, .int (0 : Int32), .ref q27, .ref q28, .ref q29, .ref q30, .ref q31, .int (0 : Int32), .ref q126, .int (-1 : Int32), .ref q32, .ref q34, .ref q36, .ref q38, .ref q39])), (q25, .inl (vC (mV M) 4, 6, .inr (.inr (.inr (.inr (fun _ => none)))))), (q26, .inl (vC (mV M) 0, (6, .inl (fun _ => 0)))), (q27, .inl (vC (mV M) 0, (6, .inl (fun _ => 0)))), (q28, .inl (vC (mV M) 0, (6, .inl (fun _ => 0)))), (q29, .inl (vC (mV M) 0, (6, .inl (fun _ => 0)))), (q30, .inl (vC (mV M) 0, (6, .inl (fun _ => 0)))), (q31, .inl (vC (mV M) 0, (24, .inl (fun _ => 0)))), (q32, .inr (5, [.ref q33, .int (0 : Int32)])), (q33, .inl (vC (mV M) 0, (18, .inl (fun _ => 0)))), (q34, .inr (5, [.ref q35, .int (0 : Int32)])), (q35, .inl (vC (mV M) 0, (10, .inl (fun _ => 0)))), (q36, .inr (5, [.ref q37, .int (0 : Int32)])), (q37, .inl (vC (mV M) 0, (8, .inl (fun _ => 0)))), (q38, .inl (vC (mV M) 0, (6, .inl (fun _ => 0)))), (q39, .inl (vC (mV M) 0, (6, .inl (fun _ => 0)))), (q45, .inr (1, [.ref q47, .int (0 : Int32), .ref q48, .int (0 : Int32), .ref q49, .ref q50, .ref q51, .ref q52, .ref q53, .int (0 : Int32), .ref q126, .int (-1 : Int32), .ref q54, .ref q56, .ref q58, .ref q60, .ref q61])), (q47, .inl (vC (mV M) 4, 6, .inr (.inr (.inr (.inr (fun _ => none)))))), (q48, .inl (vC (mV M) 0, (6, .inl (fun _ => 0)))), (q49, .inl (vC (mV M) 0, (6, .inl (fun _ => 0)))), (q50, .inl (vC (mV M) 0, (6, .inl (fun _ => 0)))), (q51, .inl (vC (mV M) 0, (6, .inl (fun _ => 0)))), (q52, .inl (vC (mV M) 0, (6, .inl (fun _ => 0)))), (q53, .inl (vC (mV M) 0, (24, .inl (fun _ => 0)))), (q54, .inr (5, [.ref q55, .int (0 : Int32)])), (q55, .inl (vC (mV M) 0, (18, .inl (fun _ => 0)))), (q56, .inr (5, [.ref q57, .int (0 : Int32)])), (q57, .inl (vC (mV M) 0, (10, .inl (fun _ => 0)))), (q58, .inr (5, [.ref q59, .int (0 : Int32)])), (q59, .inl (vC (mV M) 0, (8, .inl (fun _ => 0)))), (q60, .inl (vC (mV M) 0, (6, .inl (fun _ => 0)))), (q61, .inl (vC (mV M) 0, (6, .inl (fun _ => 0)))), (q70, .inl (vC (mV M) 5, 6, .inr (.inr (.inr (.inr (fun _ => none)))))), (q80, .inl (vC (mV M) 1, (100, .inl (fun _ => 0)))), (q90, .inl (vC (mV M) 6, 6, .inr (.inr (.inr (.inr (va_up (va_up (va_up (va_up (va_up (va_up (fun _ => none) 0 (some q143)) 1 (some q151)) 2 (some q159)) 3 (some q167)) 4 (some q175)) 5 (some q183))))))), (q97, .inr (5, [.ref q99, .int (0 : Int32)])), (q99, .inl (vC (mV M) 0, (20, .inl (fun _ => 0)))), (q105, .inl (vC (mV M) 0, (5, .inl (fun _ => 0)))), (q112, .inl (vC (mV M) 0, (5, .inl (fun _ => 0)))), (q119, .inl (vC (mV M) 0, (6, .inl (fun _ => 0)))), (q126, .inr (2, [.int (2 : Int32), .int (1 : Int32), .int (60 : Int32), .ref q128, .int (0 : Int32), .ref q129, .ref q130, .ref q131, .int (0 : Int32), .null, .int (0 : Int32), .int (0 : Int32)])), (q128, .inl (vC (mV M) 0, (100, .inl (fun _ => 0)))), (q129, .inl (vC (mV M) 0, (10, .inl (fun _ => 0)))), (q130, .inl (vC (mV M) 0, (10, .inl (fun _ => 0)))), (q131, .inl (vC (mV M) 0, (10, .inl (fun _ => 0)))), (q143, .inr (9, [.ref q145, .int (-1 : Int32), .int (0 : Int32)])), (q145, .inl (vC (mV M) 3, (60, .inr (.inl (fun _ => 0))))), (q151, .inr (9, [.ref q153, .int (-1 : Int32), .int (0 : Int32)])), (q153, .inl (vC (mV M) 3, (60, .inr (.inl (fun _ => 0))))), (q159, .inr (9, [.ref q161, .int (-1 : Int32), .int (0 : Int32)])), (q161, .inl (vC (mV M) 3, (60, .inr (.inl (fun _ => 0))))), (q167, .inr (9, [.ref q169, .int (-1 : Int32), .int (0 : Int32)])), (q169, .inl (vC (mV M) 3, (60, .inr (.inl (fun _ => 0))))), (q175, .inr (9, [.ref q177, .int (-1 : Int32), .int (0 : Int32)])), (q177, .inl (vC (mV M) 3, (60, .inr (.inl (fun _ => 0))))), (q183, .inr (9, [.ref q185, .int (-1 : Int32), .int (0 : Int32)])), (q185, .inl (vC (mV M) 3, (60, .inr (.inl (fun _ => 0)))))] := bZ
  clear bZ b186
  have c190 := eZ.trans c187
  clear eZ
  refine Z_iinc (v := (6 : Int32)) C dX11_init_166 0 rfl (by decide +kernel) (by rw [hN]; decide) rfl ?_
  refine Z_goto C dX11_init_169 (tgt := 147) (by decide +kernel) ?_
  refine Z_iload_n C dX11_init_147 0 rfl ?_
  refine Z_bipush C dX11_init_148 (v := (6 : Int32)) (by decide +kernel) ?_
  refine Z_icmp_ge C dX11_init_150 (tgt := 172) (by decide +kernel) (fun _ => ?_) (fun z => absurd (by decide +kernel) z)
  exact Z_vret C dX11_init_172 ⟨q1, q3, q4, q5, q6, q7, q8, q9, q10, q11, q12, q13, q14, q15, q16, q17, q23, q25, q26, q27, q28, q29, q30, q31, q32, q33, q34, q35, q36, q37, q38, q39, q45, q47, q48, q49, q50, q51, q52, q53, q54, q55, q56, q57, q58, q59, q60, q61, q70, q80, q90, q97, q99, q105, q112, q119, q126, q128, q129, q130, q131, q143, q145, q151, q153, q159, q161, q167, q169, q175, q177, q183, q185, b189, c190⟩
