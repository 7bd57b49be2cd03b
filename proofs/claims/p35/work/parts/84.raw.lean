noncomputable def NB (V : Vx) (N9 : Nat) (ω0 : RWd) (h : Nat) (ω : RWd) : Prop := ∃ q4 : Nat, BT ω0 ω h [(q4, .inl (vC V 0, (N9, .inl (fun _ => 0))))] ∧ ω.2 h = .inr (5, [.ref q4, .int (0 : Int32)])
theorem pa_X5_init_7 : PA RX5 wsX5_init 7 5 1 "NineMowers$Numbers" .int := by
  show _ ∧ _ ∧ _ ∧ _ ∧ _ ∧ _ ∧ _ ∧ _
  exact ⟨by decide, fun _ h => List.mem_cons_of_mem _ (List.mem_append_right _ h), List.mem_of_getElem? (i := 4) rfl, rfl, rfl, by decide +kernel, ⟨tyX5, tyX5_ok⟩, nmX5⟩
theorem pf_X5_init_13 : PF RX5 wsX5_init 13 5 0 "NineMowers$Numbers" (.array .int) := by
  show _ ∧ _ ∧ _ ∧ _ ∧ _ ∧ _ ∧ _ ∧ _ ∧ _
  exact ⟨by decide, fun _ h => List.mem_cons_of_mem _ (List.mem_append_right _ h), List.mem_of_getElem? (i := 6) rfl, rfl, rfl, rfl, by decide +kernel, ⟨tyX5, tyX5_ok⟩, nmX5⟩
set_option maxRecDepth 100000 in
set_option maxHeartbeats 8000000 in
theorem k_X5_init {l : Launch} {V : Vx} {h : Nat} {ω0 : RWd} {n9 : Int32} {N9 : Nat} (hU : UPV V) (hm : h ∈ ω0.1) (c0 : ω0.2 h = .inr (5, [.null, .int 0])) (hn9 : ¬ n9 < 0) (hN9 : n9.toNatClampNeg = N9) (hm9 : N9 ≤ 1000) : Kr l V yX5_init wsX5_init (rmr 1 (0 + 1) (0 + N9)) (0 + 1) (0 + N9) [.ref h, .int n9] ω0 (QRV V (NB V N9 ω0 h)) := by
  refine Kr_of (by decide +kernel) rfl rfl (Nat.le_of_ble_eq_true rfl) (fun M hl hV hN C hI => ?_)
  subst hl
  subst hV
  replace hI := hI rfl
  have b0 := BT_0 hm
  show PR M 0 [(0, .ref h), (1, .int n9)] [] ω0 (0, 0)
  refine Z_aload_n C dX5_init_0 0 rfl ?_
  refine Z_objInit C (List.mem_of_getElem? (i := 1) rfl) (List.mem_of_getElem? (i := 2) rfl) (List.mem_of_getElem? (i := 3) rfl) (Nat.le_of_ble_eq_true rfl) (Nat.le_of_ble_eq_true rfl) dX5_init_1 ?_
  refine Z_aload_n C dX5_init_4 0 rfl ?_
  refine Z_iconst C dX5_init_5 (v := (0 : Int32)) (by decide) ?_
  refine Y_put C pa_X5_init_7 b0 c0 rfl rfl (Nat.le_of_ble_eq_true rfl) dX5_init_6 (fun ω1 bZ cZ => ?_)
  have b2 := bZ
  clear bZ 
  have c3 : ω1.2 h = .inr (5, [.null, .int (0 : Int32)]) := cZ
  clear cZ
  refine Z_aload_n C dX5_init_9 0 rfl ?_
  refine Z_iload_n C dX5_init_10 1 rfl ?_
  refine Y_newa (t := 0) (a0 := (N9, .inl (fun _ => 0))) C hU b2 (List.mem_of_getElem? (i := 5) rfl) rfl rfl (fun _ _ q => q) (fun _ => rfl) hn9 hN9 (by rw [show componentBytes .int = 4 from rfl]; omega) (Nat.le_refl _) (Nat.le_refl _) dX5_init_11 (fun q4 ω5 bZ eZ => ?_)
  have b6 := bZ
  clear bZ b2
  have cZ := eZ.trans c3
  have c7 := cZ
  clear cZ eZ
  refine Y_putF C hI pf_X5_init_13 b6 c7 rfl rfl (Nat.le_of_ble_eq_true rfl) dX5_init_13 (fun ω8 bZ cZ => ?_)
  have b9 := bZ
  clear bZ b6
  have c10 : ω8.2 h = .inr (5, [.ref q4, .int (0 : Int32)]) := cZ
  clear cZ
  exact Z_vret C dX5_init_16 ⟨q4, b9, c10⟩
noncomputable def TB (V : Vx) (ω0 : RWd) (h : Nat) (ω : RWd) : Prop := ∃ q1 : Nat, BT ω0 ω h [(q1, .inl (vC V 3, (60, .inr (.inl (fun _ => 0)))))] ∧ ω.2 h = .inr (9, [.ref q1, .int (-1 : Int32), .int (0 : Int32)])
theorem pf_X9_init_9 : PF RX9 wsX9_init 9 9 0 "NineMowers$Tape" (.array .long) := by
  show _ ∧ _ ∧ _ ∧ _ ∧ _ ∧ _ ∧ _ ∧ _ ∧ _
  exact ⟨by decide, fun _ h => List.mem_cons_of_mem _ (List.mem_append_right _ h), List.mem_of_getElem? (i := 5) rfl, rfl, rfl, rfl, by decide +kernel, ⟨tyX9, tyX9_ok⟩, nmX9⟩
theorem pa_X9_init_13 : PA RX9 wsX9_init 13 9 1 "NineMowers$Tape" .int := by
  show _ ∧ _ ∧ _ ∧ _ ∧ _ ∧ _ ∧ _ ∧ _
  exact ⟨by decide, fun _ h => List.mem_cons_of_mem _ (List.mem_append_right _ h), List.mem_of_getElem? (i := 6) rfl, rfl, rfl, by decide +kernel, ⟨tyX9, tyX9_ok⟩, nmX9⟩
theorem pa_X9_init_17 : PA RX9 wsX9_init 17 9 2 "NineMowers$Tape" .int := by
  show _ ∧ _ ∧ _ ∧ _ ∧ _ ∧ _ ∧ _ ∧ _
  exact ⟨by decide, fun _ h => List.mem_cons_of_mem _ (List.mem_append_right _ h), List.mem_of_getElem? (i := 7) rfl, rfl, rfl, by decide +kernel, ⟨tyX9, tyX9_ok⟩, nmX9⟩
set_option maxRecDepth 100000 in
set_option maxHeartbeats 8000000 in
theorem k_X9_init {l : Launch} {V : Vx} {h : Nat} {ω0 : RWd} (hU : UPV V) (hm : h ∈ ω0.1) (c0 : ω0.2 h = .inr (9, [.null, .int 0, .int 0])) : Kr l V yX9_init wsX9_init (rmr 1 1 (60)) 1 (60) [.ref h] ω0 (QRV V (TB V ω0 h)) := by
  refine Kr_of (by decide +kernel) rfl rfl (Nat.le_of_ble_eq_true rfl) (fun M hl hV hN C hI => ?_)
  subst hl
  subst hV
  replace hI := hI rfl
  have b0 := BT_0 hm
  show PR M 0 [(0, .ref h)] [] ω0 (0, 0)
  refine Z_aload_n C dX9_init_0 0 rfl ?_
  refine Z_objInit C (List.mem_of_getElem? (i := 1) rfl) (List.mem_of_getElem? (i := 2) rfl) (List.mem_of_getElem? (i := 3) rfl) (Nat.le_of_ble_eq_true rfl) (Nat.le_of_ble_eq_true rfl) dX9_init_1 ?_
  refine Z_aload_n C dX9_init_4 0 rfl ?_
  refine Z_bipush C dX9_init_5 (v := (60 : Int32)) (by decide) ?_
  refine Y_newa (t := 3) (a0 := (60, .inr (.inl (fun _ => 0)))) C hU b0 (List.mem_of_getElem? (i := 4) rfl) rfl rfl (fun _ _ q => q) (fun _ => rfl) (by decide) rfl (by decide) (Nat.le_of_ble_eq_true rfl) (Nat.le_of_ble_eq_true rfl) dX9_init_7 (fun q1 ω2 bZ eZ => ?_)
  have b3 := bZ
  clear bZ 
  have cZ := eZ.trans c0
  have c4 := cZ
  clear cZ eZ
  show PR M 9 [(0, .ref h)] [.ref q1, .ref h] ω2 (1, 60)
  refine Y_putF C hI pf_X9_init_9 b3 c4 rfl rfl (Nat.le_of_ble_eq_true rfl) dX9_init_9 (fun ω5 bZ cZ => ?_)
  have b6 := bZ
  clear bZ b3
  have c7 : ω5.2 h = .inr (9, [.ref q1, .int 0, .int 0]) := cZ
  clear cZ
  refine Z_aload_n C dX9_init_12 0 rfl ?_
  refine Z_iconst C dX9_init_13 (v := (-1 : Int32)) (by decide) ?_
  refine Y_put C pa_X9_init_13 b6 c7 rfl rfl (Nat.le_of_ble_eq_true rfl) dX9_init_14 (fun ω8 bZ cZ => ?_)
  have b9 := bZ
  clear bZ b6
  have c10 : ω8.2 h = .inr (9, [.ref q1, .int (-1 : Int32), .int 0]) := cZ
  clear cZ
  refine Z_aload_n C dX9_init_17 0 rfl ?_
  refine Z_iconst C dX9_init_18 (v := (0 : Int32)) (by decide) ?_
  refine Y_put C pa_X9_init_17 b9 c10 rfl rfl (Nat.le_of_ble_eq_true rfl) dX9_init_19 (fun ω11 bZ cZ => ?_)
  have b12 := bZ
  clear bZ b9
  have c13 : ω11.2 h = .inr (9, [.ref q1, .int (-1 : Int32), .int (0 : Int32)]) := cZ
  clear cZ
  exact Z_vret C dX9_init_22 ⟨q1, b12, c13⟩
noncomputable def FB (V : Vx) (ω0 : RWd) (h : Nat) (ω : RWd) : Prop := ∃ q10 q20 q27 q34 : Nat, BT ω0 ω h [(q10, .inl (vC V 0, (100, .inl (fun _ => 0)))), (q20, .inl (vC V 0, (10, .inl (fun _ => 0)))), (q27, .inl (vC V 0, (10, .inl (fun _ => 0)))), (q34, .inl (vC V 0, (10, .inl (fun _ => 0))))] ∧ ω.2 h = .inr (2, [.int (2 : Int32), .int (1 : Int32), .int (60 : Int32), .ref q10, .int (0 : Int32), .ref q20, .ref q27, .ref q34, .int (0 : Int32), .null, .int (0 : Int32), .int (0 : Int32)])
theorem pa_X2_init_9 : PA RX2 wsX2_init 9 2 0 "NineMowers$Field" .int := by
  show _ ∧ _ ∧ _ ∧ _ ∧ _ ∧ _ ∧ _ ∧ _
  exact ⟨by decide, fun _ h => List.mem_cons_of_mem _ (List.mem_append_right _ h), List.mem_of_getElem? (i := 4) rfl, rfl, rfl, by decide +kernel, ⟨tyX2, tyX2_ok⟩, nmX2⟩
theorem pa_X2_init_15 : PA RX2 wsX2_init 15 2 1 "NineMowers$Field" .int := by
  show _ ∧ _ ∧ _ ∧ _ ∧ _ ∧ _ ∧ _ ∧ _
  exact ⟨by decide, fun _ h => List.mem_cons_of_mem _ (List.mem_append_right _ h), List.mem_of_getElem? (i := 5) rfl, rfl, rfl, by decide +kernel, ⟨tyX2, tyX2_ok⟩, nmX2⟩
theorem pa_X2_init_18 : PA RX2 wsX2_init 18 2 2 "NineMowers$Field" .int := by
  show _ ∧ _ ∧ _ ∧ _ ∧ _ ∧ _ ∧ _ ∧ _
  exact ⟨by decide, fun _ h => List.mem_cons_of_mem _ (List.mem_append_right _ h), List.mem_of_getElem? (i := 6) rfl, rfl, rfl, by decide +kernel, ⟨tyX2, tyX2_ok⟩, nmX2⟩
theorem pf_X2_init_21 : PF RX2 wsX2_init 21 2 3 "NineMowers$Field" (.array .int) := by
  show _ ∧ _ ∧ _ ∧ _ ∧ _ ∧ _ ∧ _ ∧ _ ∧ _
  exact ⟨by decide, fun _ h => List.mem_cons_of_mem _ (List.mem_append_right _ h), List.mem_of_getElem? (i := 8) rfl, rfl, rfl, rfl, by decide +kernel, ⟨tyX2, tyX2_ok⟩, nmX2⟩
theorem pa_X2_init_25 : PA RX2 wsX2_init 25 2 4 "NineMowers$Field" .int := by
  show _ ∧ _ ∧ _ ∧ _ ∧ _ ∧ _ ∧ _ ∧ _
  exact ⟨by decide, fun _ h => List.mem_cons_of_mem _ (List.mem_append_right _ h), List.mem_of_getElem? (i := 9) rfl, rfl, rfl, by decide +kernel, ⟨tyX2, tyX2_ok⟩, nmX2⟩
theorem pf_X2_init_28 : PF RX2 wsX2_init 28 2 5 "NineMowers$Field" (.array .int) := by
  show _ ∧ _ ∧ _ ∧ _ ∧ _ ∧ _ ∧ _ ∧ _ ∧ _
  exact ⟨by decide, fun _ h => List.mem_cons_of_mem _ (List.mem_append_right _ h), List.mem_of_getElem? (i := 10) rfl, rfl, rfl, rfl, by decide +kernel, ⟨tyX2, tyX2_ok⟩, nmX2⟩
theorem pf_X2_init_31 : PF RX2 wsX2_init 31 2 6 "NineMowers$Field" (.array .int) := by
  show _ ∧ _ ∧ _ ∧ _ ∧ _ ∧ _ ∧ _ ∧ _ ∧ _
  exact ⟨by decide, fun _ h => List.mem_cons_of_mem _ (List.mem_append_right _ h), List.mem_of_getElem? (i := 11) rfl, rfl, rfl, rfl, by decide +kernel, ⟨tyX2, tyX2_ok⟩, nmX2⟩
theorem pf_X2_init_34 : PF RX2 wsX2_init 34 2 7 "NineMowers$Field" (.array .int) := by
  show _ ∧ _ ∧ _ ∧ _ ∧ _ ∧ _ ∧ _ ∧ _ ∧ _
  exact ⟨by decide, fun _ h => List.mem_cons_of_mem _ (List.mem_append_right _ h), List.mem_of_getElem? (i := 12) rfl, rfl, rfl, rfl, by decide +kernel, ⟨tyX2, tyX2_ok⟩, nmX2⟩
theorem pa_X2_init_37 : PA RX2 wsX2_init 37 2 8 "NineMowers$Field" .int := by
  show _ ∧ _ ∧ _ ∧ _ ∧ _ ∧ _ ∧ _ ∧ _
  exact ⟨by decide, fun _ h => List.mem_cons_of_mem _ (List.mem_append_right _ h), List.mem_of_getElem? (i := 13) rfl, rfl, rfl, by decide +kernel, ⟨tyX2, tyX2_ok⟩, nmX2⟩
theorem pa_X2_init_40 : PA RX2 wsX2_init 40 2 9 "NineMowers$Field" (.array .byte) := by
  show _ ∧ _ ∧ _ ∧ _ ∧ _ ∧ _ ∧ _ ∧ _
  exact ⟨by decide, fun _ h => List.mem_cons_of_mem _ (List.mem_append_right _ h), List.mem_of_getElem? (i := 14) rfl, rfl, rfl, by decide +kernel, ⟨tyX2, tyX2_ok⟩, nmX2⟩
theorem pa_X2_init_44 : PA RX2 wsX2_init 44 2 10 "NineMowers$Field" .int := by
  show _ ∧ _ ∧ _ ∧ _ ∧ _ ∧ _ ∧ _ ∧ _
  exact ⟨by decide, fun _ h => List.mem_cons_of_mem _ (List.mem_append_right _ h), List.mem_of_getElem? (i := 15) rfl, rfl, rfl, by decide +kernel, ⟨tyX2, tyX2_ok⟩, nmX2⟩
theorem pa_X2_init_47 : PA RX2 wsX2_init 47 2 11 "NineMowers$Field" .int := by
  show _ ∧ _ ∧ _ ∧ _ ∧ _ ∧ _ ∧ _ ∧ _
  exact ⟨by decide, fun _ h => List.mem_cons_of_mem _ (List.mem_append_right _ h), List.mem_of_getElem? (i := 16) rfl, rfl, rfl, by decide +kernel, ⟨tyX2, tyX2_ok⟩, nmX2⟩
set_option maxRecDepth 100000 in
set_option maxHeartbeats 8000000 in
theorem k_X2_init {l : Launch} {V : Vx} {h : Nat} {ω0 : RWd} (hU : UPV V) (hm : h ∈ ω0.1) (c0 : ω0.2 h = .inr (2, [.int 0, .int 0, .int 0, .null, .int 0, .null, .null, .null, .int 0, .null, .int 0, .int 0])) : Kr l V yX2_init wsX2_init (rmr 1 4 (130)) 4 (130) [.ref h] ω0 (QRV V (FB V ω0 h)) := by
  refine Kr_of (by decide +kernel) rfl rfl (Nat.le_of_ble_eq_true rfl) (fun M hl hV hN C hI => ?_)
  subst hl
  subst hV
  replace hI := hI rfl
  have b0 := BT_0 hm
  show PR M 0 [(0, .ref h)] [] ω0 (0, 0)
  refine Z_aload_n C dX2_init_0 0 rfl ?_
  refine Z_objInit C (List.mem_of_getElem? (i := 1) rfl) (List.mem_of_getElem? (i := 2) rfl) (List.mem_of_getElem? (i := 3) rfl) (Nat.le_of_ble_eq_true rfl) (Nat.le_of_ble_eq_true rfl) dX2_init_1 ?_
  refine Z_aload_n C dX2_init_4 0 rfl ?_
  refine Z_iconst C dX2_init_5 (v := (2 : Int32)) (by decide) ?_
  refine Y_put C pa_X2_init_9 b0 c0 rfl rfl (Nat.le_of_ble_eq_true rfl) dX2_init_6 (fun ω1 bZ cZ => ?_)
  have b2 := bZ
  clear bZ 
  have c3 : ω1.2 h = .inr (2, [.int (2 : Int32), .int 0, .int 0, .null, .int 0, .null, .null, .null, .int 0, .null, .int 0, .int 0]) := cZ
  clear cZ
  refine Z_aload_n C dX2_init_9 0 rfl ?_
  refine Z_iconst C dX2_init_10 (v := (1 : Int32)) (by decide) ?_
  refine Y_put C pa_X2_init_15 b2 c3 rfl rfl (Nat.le_of_ble_eq_true rfl) dX2_init_11 (fun ω4 bZ cZ => ?_)
  have b5 := bZ
  clear bZ b2
  have c6 : ω4.2 h = .inr (2, [.int (2 : Int32), .int (1 : Int32), .int 0, .null, .int 0, .null, .null, .null, .int 0, .null, .int 0, .int 0]) := cZ
  clear cZ
  refine Z_aload_n C dX2_init_14 0 rfl ?_
  refine Z_bipush C dX2_init_15 (v := (60 : Int32)) (by decide) ?_
  refine Y_put C pa_X2_init_18 b5 c6 rfl rfl (Nat.le_of_ble_eq_true rfl) dX2_init_17 (fun ω7 bZ cZ => ?_)
  have b8 := bZ
  clear bZ b5
  have c9 : ω7.2 h = .inr (2, [.int (2 : Int32), .int (1 : Int32), .int (60 : Int32), .null, .int 0, .null, .null, .null, .int 0, .null, .int 0, .int 0]) := cZ
  clear cZ
  refine Z_aload_n C dX2_init_20 0 rfl ?_
  refine Z_bipush C dX2_init_21 (v := (100 : Int32)) (by decide) ?_
  refine Y_newa (t := 0) (a0 := (100, .inl (fun _ => 0))) C hU b8 (List.mem_of_getElem? (i := 7) rfl) rfl rfl (fun _ _ q => q) (fun _ => rfl) (by decide) rfl (by decide) (Nat.le_of_ble_eq_true rfl) (Nat.le_of_ble_eq_true rfl) dX2_init_23 (fun q10 ω11 bZ eZ => ?_)
  have b12 := bZ
  clear bZ b8
  have cZ := eZ.trans c9
  have c13 := cZ
  clear cZ eZ
  show PR M 25 [(0, .ref h)] [.ref q10, .ref h] ω11 (1, 100)
  refine Y_putF C hI pf_X2_init_21 b12 c13 rfl rfl (Nat.le_of_ble_eq_true rfl) dX2_init_25 (fun ω14 bZ cZ => ?_)
  have b15 := bZ
  clear bZ b12
  have c16 : ω14.2 h = .inr (2, [.int (2 : Int32), .int (1 : Int32), .int (60 : Int32), .ref q10, .int 0, .null, .null, .null, .int 0, .null, .int 0, .int 0]) := cZ
  clear cZ
  refine Z_aload_n C dX2_init_28 0 rfl ?_
  refine Z_iconst C dX2_init_29 (v := (0 : Int32)) (by decide) ?_
  refine Y_put C pa_X2_init_25 b15 c16 rfl rfl (Nat.le_of_ble_eq_true rfl) dX2_init_30 (fun ω17 bZ cZ => ?_)
  have b18 := bZ
  clear bZ b15
  have c19 : ω17.2 h = .inr (2, [.int (2 : Int32), .int (1 : Int32), .int (60 : Int32), .ref q10, .int (0 : Int32), .null, .null, .null, .int 0, .null, .int 0, .int 0]) := cZ
  clear cZ
  refine Z_aload_n C dX2_init_33 0 rfl ?_
  refine Z_bipush C dX2_init_34 (v := (10 : Int32)) (by decide) ?_
  refine Y_newa (t := 0) (a0 := (10, .inl (fun _ => 0))) C hU b18 (List.mem_of_getElem? (i := 7) rfl) rfl rfl (fun _ _ q => q) (fun _ => rfl) (by decide) rfl (by decide) (Nat.le_of_ble_eq_true rfl) (Nat.le_of_ble_eq_true rfl) dX2_init_36 (fun q20 ω21 bZ eZ => ?_)
  have b22 := bZ
  clear bZ b18
  have cZ := eZ.trans c19
  have c23 := cZ
  clear cZ eZ
  show PR M 38 [(0, .ref h)] [.ref q20, .ref h] ω21 (2, 110)
  refine Y_putF C hI pf_X2_init_28 b22 c23 rfl rfl (Nat.le_of_ble_eq_true rfl) dX2_init_38 (fun ω24 bZ cZ => ?_)
  have b25 := bZ
  clear bZ b22
  have c26 : ω24.2 h = .inr (2, [.int (2 : Int32), .int (1 : Int32), .int (60 : Int32), .ref q10, .int (0 : Int32), .ref q20, .null, .null, .int 0, .null, .int 0, .int 0]) := cZ
  clear cZ
  refine Z_aload_n C dX2_init_41 0 rfl ?_
  refine Z_bipush C dX2_init_42 (v := (10 : Int32)) (by decide) ?_
  refine Y_newa (t := 0) (a0 := (10, .inl (fun _ => 0))) C hU b25 (List.mem_of_getElem? (i := 7) rfl) rfl rfl (fun _ _ q => q) (fun _ => rfl) (by decide) rfl (by decide) (Nat.le_of_ble_eq_true rfl) (Nat.le_of_ble_eq_true rfl) dX2_init_44 (fun q27 ω28 bZ eZ => ?_)
  have b29 := bZ
  clear bZ b25
  have cZ := eZ.trans c26
  have c30 := cZ
  clear cZ eZ
  show PR M 46 [(0, .ref h)] [.ref q27, .ref h] ω28 (3, 120)
  refine Y_putF C hI pf_X2_init_31 b29 c30 rfl rfl (Nat.le_of_ble_eq_true rfl) dX2_init_46 (fun ω31 bZ cZ => ?_)
  have b32 := bZ
  clear bZ b29
  have c33 : ω31.2 h = .inr (2, [.int (2 : Int32), .int (1 : Int32), .int (60 : Int32), .ref q10, .int (0 : Int32), .ref q20, .ref q27, .null, .int 0, .null, .int 0, .int 0]) := cZ
  clear cZ
  refine Z_aload_n C dX2_init_49 0 rfl ?_
  refine Z_bipush C dX2_init_50 (v := (10 : Int32)) (by decide) ?_
  refine Y_newa (t := 0) (a0 := (10, .inl (fun _ => 0))) C hU b32 (List.mem_of_getElem? (i := 7) rfl) rfl rfl (fun _ _ q => q) (fun _ => rfl) (by decide) rfl (by decide) (Nat.le_of_ble_eq_true rfl) (Nat.le_of_ble_eq_true rfl) dX2_init_52 (fun q34 ω35 bZ eZ => ?_)
  have b36 := bZ
  clear bZ b32
  have cZ := eZ.trans c33
  have c37 := cZ
  clear cZ eZ
  show PR M 54 [(0, .ref h)] [.ref q34, .ref h] ω35 (4, 130)
  refine Y_putF C hI pf_X2_init_34 b36 c37 rfl rfl (Nat.le_of_ble_eq_true rfl) dX2_init_54 (fun ω38 bZ cZ => ?_)
  have b39 := bZ
  clear bZ b36
  have c40 : ω38.2 h = .inr (2, [.int (2 : Int32), .int (1 : Int32), .int (60 : Int32), .ref q10, .int (0 : Int32), .ref q20, .ref q27, .ref q34, .int 0, .null, .int 0, .int 0]) := cZ
  clear cZ
  refine Z_aload_n C dX2_init_57 0 rfl ?_
  refine Z_iconst C dX2_init_58 (v := (0 : Int32)) (by decide) ?_
  refine Y_put C pa_X2_init_37 b39 c40 rfl rfl (Nat.le_of_ble_eq_true rfl) dX2_init_59 (fun ω41 bZ cZ => ?_)
  have b42 := bZ
  clear bZ b39
  have c43 : ω41.2 h = .inr (2, [.int (2 : Int32), .int (1 : Int32), .int (60 : Int32), .ref q10, .int (0 : Int32), .ref q20, .ref q27, .ref q34, .int (0 : Int32), .null, .int 0, .int 0]) := cZ
  clear cZ
  refine Z_aload_n C dX2_init_62 0 rfl ?_
  refine Z_null C dX2_init_63 ?_
  refine Y_put C pa_X2_init_40 b42 c43 rfl rfl (Nat.le_of_ble_eq_true rfl) dX2_init_64 (fun ω44 bZ cZ => ?_)
  have b45 := bZ
  clear bZ b42
  have c46 : ω44.2 h = .inr (2, [.int (2 : Int32), .int (1 : Int32), .int (60 : Int32), .ref q10, .int (0 : Int32), .ref q20, .ref q27, .ref q34, .int (0 : Int32), .null, .int 0, .int 0]) := cZ
  clear cZ
  refine Z_aload_n C dX2_init_67 0 rfl ?_
  refine Z_iconst C dX2_init_68 (v := (0 : Int32)) (by decide) ?_
  refine Y_put C pa_X2_init_44 b45 c46 rfl rfl (Nat.le_of_ble_eq_true rfl) dX2_init_69 (fun ω47 bZ cZ => ?_)
  have b48 := bZ
  clear bZ b45
  have c49 : ω47.2 h = .inr (2, [.int (2 : Int32), .int (1 : Int32), .int (60 : Int32), .ref q10, .int (0 : Int32), .ref q20, .ref q27, .ref q34, .int (0 : Int32), .null, .int (0 : Int32), .int 0]) := cZ
  clear cZ
  refine Z_aload_n C dX2_init_72 0 rfl ?_
  refine Z_iconst C dX2_init_73 (v := (0 : Int32)) (by decide) ?_
  refine Y_put C pa_X2_init_47 b48 c49 rfl rfl (Nat.le_of_ble_eq_true rfl) dX2_init_74 (fun ω50 bZ cZ => ?_)
  have b51 := bZ
  clear bZ b48
  have c52 : ω50.2 h = .inr (2, [.int (2 : Int32), .int (1 : Int32), .int (60 : Int32), .ref q10, .int (0 : Int32), .ref q20, .ref q27, .ref q34, .int (0 : Int32), .null, .int (0 : Int32), .int (0 : Int32)]) := cZ
  clear cZ
  exact Z_vret C dX2_init_77 ⟨q10, q20, q27, q34, b51, c52⟩
noncomputable def CB (V : Vx) (ω0 : RWd) (h : Nat) (ω : RWd) : Prop := ∃ q1 q11 q21 q28 q35 q42 q49 q65 q67 q73 q75 q81 q83 q89 q96 : Nat, BT ω0 ω h [(q1, .inl (vC V 4, 6, .inr (.inr (.inr (.inr (fun _ => none)))))), (q11, .inl (vC V 0, (6, .inl (fun _ => 0)))), (q21, .inl (vC V 0, (6, .inl (fun _ => 0)))), (q28, .inl (vC V 0, (6, .inl (fun _ => 0)))), (q35, .inl (vC V 0, (6, .inl (fun _ => 0)))), (q42, .inl (vC V 0, (6, .inl (fun _ => 0)))), (q49, .inl (vC V 0, (24, .inl (fun _ => 0)))), (q65, .inr (5, [.ref q67, .int (0 : Int32)])), (q67, .inl (vC V 0, (18, .inl (fun _ => 0)))), (q73, .inr (5, [.ref q75, .int (0 : Int32)])), (q75, .inl (vC V 0, (10, .inl (fun _ => 0)))), (q81, .inr (5, [.ref q83, .int (0 : Int32)])), (q83, .inl (vC V 0, (8, .inl (fun _ => 0)))), (q89, .inl (vC V 0, (6, .inl (fun _ => 0)))), (q96, .inl (vC V 0, (6, .inl (fun _ => 0))))] ∧ ω.2 h = .inr (1, [.ref q1, .int (0 : Int32), .ref q11, .int (0 : Int32), .ref q21, .ref q28, .ref q35, .ref q42, .ref q49, .int (0 : Int32), .null, .int (-1 : Int32), .ref q65, .ref q73, .ref q81, .ref q89, .ref q96])
theorem pf_X1_init_11 : PF RX1 wsX1_init 11 1 0 "NineMowers$Course" (.array (.object "NineMowers$Mower")) := by
  show _ ∧ _ ∧ _ ∧ _ ∧ _ ∧ _ ∧ _ ∧ _ ∧ _
  exact ⟨by decide, fun _ h => List.mem_cons_of_mem _ (List.mem_append_left _ (List.mem_append_right _ h)), List.mem_of_getElem? (i := 5) rfl, rfl, rfl, rfl, by decide +kernel, ⟨tyX1, tyX1_ok⟩, nmX1⟩
theorem pa_X1_init_17 : PA RX1 wsX1_init 17 1 1 "NineMowers$Course" .int := by
  show _ ∧ _ ∧ _ ∧ _ ∧ _ ∧ _ ∧ _ ∧ _
  exact ⟨by decide, fun _ h => List.mem_cons_of_mem _ (List.mem_append_left _ (List.mem_append_right _ h)), List.mem_of_getElem? (i := 6) rfl, rfl, rfl, by decide +kernel, ⟨tyX1, tyX1_ok⟩, nmX1⟩
theorem pf_X1_init_21 : PF RX1 wsX1_init 21 1 2 "NineMowers$Course" (.array .int) := by
  show _ ∧ _ ∧ _ ∧ _ ∧ _ ∧ _ ∧ _ ∧ _ ∧ _
  exact ⟨by decide, fun _ h => List.mem_cons_of_mem _ (List.mem_append_left _ (List.mem_append_right _ h)), List.mem_of_getElem? (i := 8) rfl, rfl, rfl, rfl, by decide +kernel, ⟨tyX1, tyX1_ok⟩, nmX1⟩
theorem pa_X1_init_25 : PA RX1 wsX1_init 25 1 3 "NineMowers$Course" .int := by
  show _ ∧ _ ∧ _ ∧ _ ∧ _ ∧ _ ∧ _ ∧ _
  exact ⟨by decide, fun _ h => List.mem_cons_of_mem _ (List.mem_append_left _ (List.mem_append_right _ h)), List.mem_of_getElem? (i := 9) rfl, rfl, rfl, by decide +kernel, ⟨tyX1, tyX1_ok⟩, nmX1⟩
theorem pf_X1_init_28 : PF RX1 wsX1_init 28 1 4 "NineMowers$Course" (.array .int) := by
  show _ ∧ _ ∧ _ ∧ _ ∧ _ ∧ _ ∧ _ ∧ _ ∧ _
  exact ⟨by decide, fun _ h => List.mem_cons_of_mem _ (List.mem_append_left _ (List.mem_append_right _ h)), List.mem_of_getElem? (i := 10) rfl, rfl, rfl, rfl, by decide +kernel, ⟨tyX1, tyX1_ok⟩, nmX1⟩
theorem pf_X1_init_31 : PF RX1 wsX1_init 31 1 5 "NineMowers$Course" (.array .int) := by
  show _ ∧ _ ∧ _ ∧ _ ∧ _ ∧ _ ∧ _ ∧ _ ∧ _
  exact ⟨by decide, fun _ h => List.mem_cons_of_mem _ (List.mem_append_left _ (List.mem_append_right _ h)), List.mem_of_getElem? (i := 11) rfl, rfl, rfl, rfl, by decide +kernel, ⟨tyX1, tyX1_ok⟩, nmX1⟩
theorem pf_X1_init_34 : PF RX1 wsX1_init 34 1 6 "NineMowers$Course" (.array .int) := by
  show _ ∧ _ ∧ _ ∧ _ ∧ _ ∧ _ ∧ _ ∧ _ ∧ _
  exact ⟨by decide, fun _ h => List.mem_cons_of_mem _ (List.mem_append_left _ (List.mem_append_right _ h)), List.mem_of_getElem? (i := 12) rfl, rfl, rfl, rfl, by decide +kernel, ⟨tyX1, tyX1_ok⟩, nmX1⟩
theorem pf_X1_init_37 : PF RX1 wsX1_init 37 1 7 "NineMowers$Course" (.array .int) := by
  show _ ∧ _ ∧ _ ∧ _ ∧ _ ∧ _ ∧ _ ∧ _ ∧ _
  exact ⟨by decide, fun _ h => List.mem_cons_of_mem _ (List.mem_append_left _ (List.mem_append_right _ h)), List.mem_of_getElem? (i := 13) rfl, rfl, rfl, rfl, by decide +kernel, ⟨tyX1, tyX1_ok⟩, nmX1⟩
theorem pf_X1_init_40 : PF RX1 wsX1_init 40 1 8 "NineMowers$Course" (.array .int) := by
  show _ ∧ _ ∧ _ ∧ _ ∧ _ ∧ _ ∧ _ ∧ _ ∧ _
  exact ⟨by decide, fun _ h => List.mem_cons_of_mem _ (List.mem_append_left _ (List.mem_append_right _ h)), List.mem_of_getElem? (i := 14) rfl, rfl, rfl, rfl, by decide +kernel, ⟨tyX1, tyX1_ok⟩, nmX1⟩
theorem pa_X1_init_43 : PA RX1 wsX1_init 43 1 9 "NineMowers$Course" .int := by
  show _ ∧ _ ∧ _ ∧ _ ∧ _ ∧ _ ∧ _ ∧ _
  exact ⟨by decide, fun _ h => List.mem_cons_of_mem _ (List.mem_append_left _ (List.mem_append_right _ h)), List.mem_of_getElem? (i := 15) rfl, rfl, rfl, by decide +kernel, ⟨tyX1, tyX1_ok⟩, nmX1⟩
theorem pa_X1_init_46 : PA RX1 wsX1_init 46 1 10 "NineMowers$Course" (.object "NineMowers$Field") := by
  show _ ∧ _ ∧ _ ∧ _ ∧ _ ∧ _ ∧ _ ∧ _
  exact ⟨by decide, fun _ h => List.mem_cons_of_mem _ (List.mem_append_left _ (List.mem_append_right _ h)), List.mem_of_getElem? (i := 16) rfl, rfl, rfl, by decide +kernel, ⟨tyX1, tyX1_ok⟩, nmX1⟩
theorem pa_X1_init_50 : PA RX1 wsX1_init 50 1 11 "NineMowers$Course" .int := by
  show _ ∧ _ ∧ _ ∧ _ ∧ _ ∧ _ ∧ _ ∧ _
  exact ⟨by decide, fun _ h => List.mem_cons_of_mem _ (List.mem_append_left _ (List.mem_append_right _ h)), List.mem_of_getElem? (i := 17) rfl, rfl, rfl, by decide +kernel, ⟨tyX1, tyX1_ok⟩, nmX1⟩
theorem ki_X1_init_X5_init_55 {c s c2 s2 : Nat} : KI RX1 wsX1_init (rmr 2 c s) 55 yX5_init wsX5_init (rmr 1 c2 s2) 1 := ⟨_, _, _, gX1_init_X5_init, rfl, (List.mem_of_getElem? (i := 20) rfl), (List.mem_of_getElem? (i := 26) rfl), (List.mem_of_getElem? (i := 27) rfl), rfl, by decide +kernel, Nat.le_of_ble_eq_true rfl, Nat.le_of_ble_eq_true rfl⟩
theorem pf_X1_init_58 : PF RX1 wsX1_init 58 1 12 "NineMowers$Course" (.object "NineMowers$Numbers") := by
  show _ ∧ _ ∧ _ ∧ _ ∧ _ ∧ _ ∧ _ ∧ _ ∧ _
  exact ⟨by decide, fun _ h => List.mem_cons_of_mem _ (List.mem_append_left _ (List.mem_append_right _ h)), List.mem_of_getElem? (i := 21) rfl, rfl, rfl, rfl, by decide +kernel, ⟨tyX1, tyX1_ok⟩, nmX1⟩
theorem pf_X1_init_62 : PF RX1 wsX1_init 62 1 13 "NineMowers$Course" (.object "NineMowers$Numbers") := by
  show _ ∧ _ ∧ _ ∧ _ ∧ _ ∧ _ ∧ _ ∧ _ ∧ _
  exact ⟨by decide, fun _ h => List.mem_cons_of_mem _ (List.mem_append_left _ (List.mem_append_right _ h)), List.mem_of_getElem? (i := 22) rfl, rfl, rfl, rfl, by decide +kernel, ⟨tyX1, tyX1_ok⟩, nmX1⟩
theorem pf_X1_init_65 : PF RX1 wsX1_init 65 1 14 "NineMowers$Course" (.object "NineMowers$Numbers") := by
  show _ ∧ _ ∧ _ ∧ _ ∧ _ ∧ _ ∧ _ ∧ _ ∧ _
  exact ⟨by decide, fun _ h => List.mem_cons_of_mem _ (List.mem_append_left _ (List.mem_append_right _ h)), List.mem_of_getElem? (i := 23) rfl, rfl, rfl, rfl, by decide +kernel, ⟨tyX1, tyX1_ok⟩, nmX1⟩
theorem pf_X1_init_68 : PF RX1 wsX1_init 68 1 15 "NineMowers$Course" (.array .int) := by
  show _ ∧ _ ∧ _ ∧ _ ∧ _ ∧ _ ∧ _ ∧ _ ∧ _
  exact ⟨by decide, fun _ h => List.mem_cons_of_mem _ (List.mem_append_left _ (List.mem_append_right _ h)), List.mem_of_getElem? (i := 24) rfl, rfl, rfl, rfl, by decide +kernel, ⟨tyX1, tyX1_ok⟩, nmX1⟩
theorem pf_X1_init_71 : PF RX1 wsX1_init 71 1 16 "NineMowers$Course" (.array .int) := by
  show _ ∧ _ ∧ _ ∧ _ ∧ _ ∧ _ ∧ _ ∧ _ ∧ _
  exact ⟨by decide, fun _ h => List.mem_cons_of_mem _ (List.mem_append_left _ (List.mem_append_right _ h)), List.mem_of_getElem? (i := 25) rfl, rfl, rfl, rfl, by decide +kernel, ⟨tyX1, tyX1_ok⟩, nmX1⟩
set_option maxRecDepth 100000 in
set_option maxHeartbeats 8000000 in
theorem k_X1_init {l : Launch} {V : Vx} {h : Nat} {ω0 : RWd} (hU : UPV V) (hm : h ∈ ω0.1) (c0 : ω0.2 h = .inr (1, [.null, .int 0, .null, .int 0, .null, .null, .null, .null, .null, .int 0, .null, .int 0, .null, .null, .null, .null, .null])) : Kr l V yX1_init wsX1_init (rmr 2 15 (114)) 15 (114) [.ref h] ω0 (QRV V (CB V ω0 h)) := by
  refine Kr_of (by decide +kernel) rfl rfl (Nat.le_of_ble_eq_true rfl) (fun M hl hV hN C hI => ?_)
  subst hl
  subst hV
  replace hI := hI rfl
  have b0 := BT_0 hm
  show PR M 0 [(0, .ref h)] [] ω0 (0, 0)
  refine Z_aload_n C dX1_init_0 0 rfl ?_
  refine Z_objInit C (List.mem_of_getElem? (i := 1) rfl) (List.mem_of_getElem? (i := 2) rfl) (List.mem_of_getElem? (i := 3) rfl) (Nat.le_of_ble_eq_true rfl) (Nat.le_of_ble_eq_true rfl) dX1_init_1 ?_
  refine Z_aload_n C dX1_init_4 0 rfl ?_
  refine Z_bipush C dX1_init_5 (v := (6 : Int32)) (by decide) ?_
  refine Y_newq (t := 4) C hU b0 (fun U h => (hU U h).2.1) rfl (List.mem_of_getElem? (i := 4) rfl) (by decide) rfl (by decide) (Nat.le_of_ble_eq_true rfl) (Nat.le_of_ble_eq_true rfl) dX1_init_7 (fun q1 ω2 bZ eZ => ?_)
  have b3 := bZ
  clear bZ 
  have c4 := eZ.trans c0
  clear eZ
  show PR M 10 [(0, .ref h)] [.ref q1, .ref h] ω2 (1, 6)
  refine Y_putF C hI pf_X1_init_11 b3 c4 rfl rfl (Nat.le_of_ble_eq_true rfl) dX1_init_10 (fun ω5 bZ cZ => ?_)
  have b6 := bZ
  clear bZ b3
  have c7 : ω5.2 h = .inr (1, [.ref q1, .int 0, .null, .int 0, .null, .null, .null, .null, .null, .int 0, .null, .int 0, .null, .null, .null, .null, .null]) := cZ
  clear cZ
  refine Z_aload_n C dX1_init_13 0 rfl ?_
  refine Z_iconst C dX1_init_14 (v := (0 : Int32)) (by decide) ?_
  refine Y_put C pa_X1_init_17 b6 c7 rfl rfl (Nat.le_of_ble_eq_true rfl) dX1_init_15 (fun ω8 bZ cZ => ?_)
  have b9 := bZ
  clear bZ b6
  have c10 : ω8.2 h = .inr (1, [.ref q1, .int (0 : Int32), .null, .int 0, .null, .null, .null, .null, .null, .int 0, .null, .int 0, .null, .null, .null, .null, .null]) := cZ
  clear cZ
  refine Z_aload_n C dX1_init_18 0 rfl ?_
  refine Z_bipush C dX1_init_19 (v := (6 : Int32)) (by decide) ?_
  refine Y_newa (t := 0) (a0 := (6, .inl (fun _ => 0))) C hU b9 (List.mem_of_getElem? (i := 7) rfl) rfl rfl (fun _ _ q => q) (fun _ => rfl) (by decide) rfl (by decide) (Nat.le_of_ble_eq_true rfl) (Nat.le_of_ble_eq_true rfl) dX1_init_21 (fun q11 ω12 bZ eZ => ?_)
  have b13 := bZ
  clear bZ b9
  have cZ := eZ.trans c10
  have c14 := cZ
  clear cZ eZ
  show PR M 23 [(0, .ref h)] [.ref q11, .ref h] ω12 (2, 12)
  refine Y_putF C hI pf_X1_init_21 b13 c14 rfl rfl (Nat.le_of_ble_eq_true rfl) dX1_init_23 (fun ω15 bZ cZ => ?_)
  have b16 := bZ
  clear bZ b13
  have c17 : ω15.2 h = .inr (1, [.ref q1, .int (0 : Int32), .ref q11, .int 0, .null, .null, .null, .null, .null, .int 0, .null, .int 0, .null, .null, .null, .null, .null]) := cZ
  clear cZ
  refine Z_aload_n C dX1_init_26 0 rfl ?_
  refine Z_iconst C dX1_init_27 (v := (0 : Int32)) (by decide) ?_
  refine Y_put C pa_X1_init_25 b16 c17 rfl rfl (Nat.le_of_ble_eq_true rfl) dX1_init_28 (fun ω18 bZ cZ => ?_)
  have b19 := bZ
  clear bZ b16
  have c20 : ω18.2 h = .inr (1, [.ref q1, .int (0 : Int32), .ref q11, .int (0 : Int32), .null, .null, .null, .null, .null, .int 0, .null, .int 0, .null, .null, .null, .null, .null]) := cZ
  clear cZ
  refine Z_aload_n C dX1_init_31 0 rfl ?_
  refine Z_bipush C dX1_init_32 (v := (6 : Int32)) (by decide) ?_
  refine Y_newa (t := 0) (a0 := (6, .inl (fun _ => 0))) C hU b19 (List.mem_of_getElem? (i := 7) rfl) rfl rfl (fun _ _ q => q) (fun _ => rfl) (by decide) rfl (by decide) (Nat.le_of_ble_eq_true rfl) (Nat.le_of_ble_eq_true rfl) dX1_init_34 (fun q21 ω22 bZ eZ => ?_)
  have b23 := bZ
  clear bZ b19
  have cZ := eZ.trans c20
  have c24 := cZ
  clear cZ eZ
  show PR M 36 [(0, .ref h)] [.ref q21, .ref h] ω22 (3, 18)
  refine Y_putF C hI pf_X1_init_28 b23 c24 rfl rfl (Nat.le_of_ble_eq_true rfl) dX1_init_36 (fun ω25 bZ cZ => ?_)
  have b26 := bZ
  clear bZ b23
  have c27 : ω25.2 h = .inr (1, [.ref q1, .int (0 : Int32), .ref q11, .int (0 : Int32), .ref q21, .null, .null, .null, .null, .int 0, .null, .int 0, .null, .null, .null, .null, .null]) := cZ
  clear cZ
  refine Z_aload_n C dX1_init_39 0 rfl ?_
  refine Z_bipush C dX1_init_40 (v := (6 : Int32)) (by decide) ?_
  refine Y_newa (t := 0) (a0 := (6, .inl (fun _ => 0))) C hU b26 (List.mem_of_getElem? (i := 7) rfl) rfl rfl (fun _ _ q => q) (fun _ => rfl) (by decide) rfl (by decide) (Nat.le_of_ble_eq_true rfl) (Nat.le_of_ble_eq_true rfl) dX1_init_42 (fun q28 ω29 bZ eZ => ?_)
  have b30 := bZ
  clear bZ b26
  have cZ := eZ.trans c27
  have c31 := cZ
  clear cZ eZ
  show PR M 44 [(0, .ref h)] [.ref q28, .ref h] ω29 (4, 24)
  refine Y_putF C hI pf_X1_init_31 b30 c31 rfl rfl (Nat.le_of_ble_eq_true rfl) dX1_init_44 (fun ω32 bZ cZ => ?_)
  have b33 := bZ
  clear bZ b30
  have c34 : ω32.2 h = .inr (1, [.ref q1, .int (0 : Int32), .ref q11, .int (0 : Int32), .ref q21, .ref q28, .null, .null, .null, .int 0, .null, .int 0, .null, .null, .null, .null, .null]) := cZ
  clear cZ
  refine Z_aload_n C dX1_init_47 0 rfl ?_
  refine Z_bipush C dX1_init_48 (v := (6 : Int32)) (by decide) ?_
  refine Y_newa (t := 0) (a0 := (6, .inl (fun _ => 0))) C hU b33 (List.mem_of_getElem? (i := 7) rfl) rfl rfl (fun _ _ q => q) (fun _ => rfl) (by decide) rfl (by decide) (Nat.le_of_ble_eq_true rfl) (Nat.le_of_ble_eq_true rfl) dX1_init_50 (fun q35 ω36 bZ eZ => ?_)
  have b37 := bZ
  clear bZ b33
  have cZ := eZ.trans c34
  have c38 := cZ
  clear cZ eZ
  show PR M 52 [(0, .ref h)] [.ref q35, .ref h] ω36 (5, 30)
  refine Y_putF C hI pf_X1_init_34 b37 c38 rfl rfl (Nat.le_of_ble_eq_true rfl) dX1_init_52 (fun ω39 bZ cZ => ?_)
  have b40 := bZ
  clear bZ b37
  have c41 : ω39.2 h = .inr (1, [.ref q1, .int (0 : Int32), .ref q11, .int (0 : Int32), .ref q21, .ref q28, .ref q35, .null, .null, .int 0, .null, .int 0, .null, .null, .null, .null, .null]) := cZ
  clear cZ
  refine Z_aload_n C dX1_init_55 0 rfl ?_
  refine Z_bipush C dX1_init_56 (v := (6 : Int32)) (by decide) ?_
  refine Y_newa (t := 0) (a0 := (6, .inl (fun _ => 0))) C hU b40 (List.mem_of_getElem? (i := 7) rfl) rfl rfl (fun _ _ q => q) (fun _ => rfl) (by decide) rfl (by decide) (Nat.le_of_ble_eq_true rfl) (Nat.le_of_ble_eq_true rfl) dX1_init_58 (fun q42 ω43 bZ eZ => ?_)
  have b44 := bZ
  clear bZ b40
  have cZ := eZ.trans c41
  have c45 := cZ
  clear cZ eZ
  show PR M 60 [(0, .ref h)] [.ref q42, .ref h] ω43 (6, 36)
  refine Y_putF C hI pf_X1_init_37 b44 c45 rfl rfl (Nat.le_of_ble_eq_true rfl) dX1_init_60 (fun ω46 bZ cZ => ?_)
  have b47 := bZ
  clear bZ b44
  have c48 : ω46.2 h = .inr (1, [.ref q1, .int (0 : Int32), .ref q11, .int (0 : Int32), .ref q21, .ref q28, .ref q35, .ref q42, .null, .int 0, .null, .int 0, .null, .null, .null, .null, .null]) := cZ
  clear cZ
  refine Z_aload_n C dX1_init_63 0 rfl ?_
  refine Z_bipush C dX1_init_64 (v := (24 : Int32)) (by decide) ?_
  refine Y_newa (t := 0) (a0 := (24, .inl (fun _ => 0))) C hU b47 (List.mem_of_getElem? (i := 7) rfl) rfl rfl (fun _ _ q => q) (fun _ => rfl) (by decide) rfl (by decide) (Nat.le_of_ble_eq_true rfl) (Nat.le_of_ble_eq_true rfl) dX1_init_66 (fun q49 ω50 bZ eZ => ?_)
  have b51 := bZ
  clear bZ b47
  have cZ := eZ.trans c48
  have c52 := cZ
  clear cZ eZ
  show PR M 68 [(0, .ref h)] [.ref q49, .ref h] ω50 (7, 60)
  refine Y_putF C hI pf_X1_init_40 b51 c52 rfl rfl (Nat.le_of_ble_eq_true rfl) dX1_init_68 (fun ω53 bZ cZ => ?_)
  have b54 := bZ
  clear bZ b51
  have c55 : ω53.2 h = .inr (1, [.ref q1, .int (0 : Int32), .ref q11, .int (0 : Int32), .ref q21, .ref q28, .ref q35, .ref q42, .ref q49, .int 0, .null, .int 0, .null, .null, .null, .null, .null]) := cZ
  clear cZ
  refine Z_aload_n C dX1_init_71 0 rfl ?_
  refine Z_iconst C dX1_init_72 (v := (0 : Int32)) (by decide) ?_
  refine Y_put C pa_X1_init_43 b54 c55 rfl rfl (Nat.le_of_ble_eq_true rfl) dX1_init_73 (fun ω56 bZ cZ => ?_)
  have b57 := bZ
  clear bZ b54
  have c58 : ω56.2 h = .inr (1, [.ref q1, .int (0 : Int32), .ref q11, .int (0 : Int32), .ref q21, .ref q28, .ref q35, .ref q42, .ref q49, .int (0 : Int32), .null, .int 0, .null, .null, .null, .null, .null]) := cZ
  clear cZ
  refine Z_aload_n C dX1_init_76 0 rfl ?_
  refine Z_null C dX1_init_77 ?_
  refine Y_put C pa_X1_init_46 b57 c58 rfl rfl (Nat.le_of_ble_eq_true rfl) dX1_init_78 (fun ω59 bZ cZ => ?_)
  have b60 := bZ
  clear bZ b57
  have c61 : ω59.2 h = .inr (1, [.ref q1, .int (0 : Int32), .ref q11, .int (0 : Int32), .ref q21, .ref q28, .ref q35, .ref q42, .ref q49, .int (0 : Int32), .null, .int 0, .null, .null, .null, .null, .null]) := cZ
  clear cZ
  refine Z_aload_n C dX1_init_81 0 rfl ?_
  refine Z_iconst C dX1_init_82 (v := (-1 : Int32)) (by decide) ?_
  refine Y_put C pa_X1_init_50 b60 c61 rfl rfl (Nat.le_of_ble_eq_true rfl) dX1_init_83 (fun ω62 bZ cZ => ?_)
  have b63 := bZ
  clear bZ b60
  have c64 : ω62.2 h = .inr (1, [.ref q1, .int (0 : Int32), .ref q11, .int (0 : Int32), .ref q21, .ref q28, .ref q35, .ref q42, .ref q49, .int (0 : Int32), .null, .int (-1 : Int32), .null, .null, .null, .null, .null]) := cZ
  clear cZ
  refine Z_aload_n C dX1_init_86 0 rfl ?_
  refine Z_new (fs := [.null, .int 0]) C hU (ci := 5) rfl (fun _ h => List.mem_cons_of_mem _ (List.mem_append_right _ h)) tyX5_ok (List.mem_of_getElem? (i := 18) rfl) (List.mem_of_getElem? (i := 19) rfl) (List.mem_of_getElem? (i := 20) rfl) dfX5 (Nat.le_of_ble_eq_true rfl) (Nat.le_of_ble_eq_true rfl) dX1_init_87 (fun q65 hq65 => ?_)
  show PR M 90 [(0, .ref h)] [.ref q65, .ref h] (rnew ω62 q65 (.inr (5, [.null, .int 0]))) (8, 62)
  refine Z_dup C dX1_init_90 rfl ?_
  refine Z_bipush C dX1_init_91 (v := (18 : Int32)) (by decide) ?_
  refine Z_ci (rc0 := (rmr 1 (0 + 1) (0 + 18))) (Qk := NB (mV M) 18 (rnew ω62 q65 (.inr (5, [.null, .int 0]))) q65) (b := q65) (As := [.int (18 : Int32)]) C ki_X1_init_X5_init_55  rfl (Nat.le_of_ble_eq_true rfl) dX1_init_93 ⟨Nat.le_of_ble_eq_true rfl, Nat.le_of_ble_eq_true rfl⟩ (k_X5_init hU (List.mem_append_right _ (List.mem_singleton.mpr rfl)) (va_up_self _ _ _) (by decide) rfl (by decide)) (fun ω66 bZ => ?_)
  obtain ⟨q67, bZ, cZ⟩ := bZ
  obtain ⟨bZ, eZ⟩ := BT_call b63 hq65 bZ cZ
  have b68 := bZ
  clear bZ b63
  have c69 := eZ.trans c64
  clear cZ eZ
  show PR M 96 [(0, .ref h)] [.ref q65, .ref h] ω66 (9, 80)
  refine Y_putF C hI pf_X1_init_58 b68 c69 rfl rfl (Nat.le_of_ble_eq_true rfl) dX1_init_96 (fun ω70 bZ cZ => ?_)
  have b71 := bZ
  clear bZ b68
  have c72 : ω70.2 h = .inr (1, [.ref q1, .int (0 : Int32), .ref q11, .int (0 : Int32), .ref q21, .ref q28, .ref q35, .ref q42, .ref q49, .int (0 : Int32), .null, .int (-1 : Int32), .ref q65, .null, .null, .null, .null]) := cZ
  clear cZ
  refine Z_aload_n C dX1_init_99 0 rfl ?_
  refine Z_new (fs := [.null, .int 0]) C hU (ci := 5) rfl (fun _ h => List.mem_cons_of_mem _ (List.mem_append_right _ h)) tyX5_ok (List.mem_of_getElem? (i := 18) rfl) (List.mem_of_getElem? (i := 19) rfl) (List.mem_of_getElem? (i := 20) rfl) dfX5 (Nat.le_of_ble_eq_true rfl) (Nat.le_of_ble_eq_true rfl) dX1_init_100 (fun q73 hq73 => ?_)
  show PR M 103 [(0, .ref h)] [.ref q73, .ref h] (rnew ω70 q73 (.inr (5, [.null, .int 0]))) (10, 82)
  refine Z_dup C dX1_init_103 rfl ?_
  refine Z_bipush C dX1_init_104 (v := (10 : Int32)) (by decide) ?_
  refine Z_ci (rc0 := (rmr 1 (0 + 1) (0 + 10))) (Qk := NB (mV M) 10 (rnew ω70 q73 (.inr (5, [.null, .int 0]))) q73) (b := q73) (As := [.int (10 : Int32)]) C ki_X1_init_X5_init_55  rfl (Nat.le_of_ble_eq_true rfl) dX1_init_106 ⟨Nat.le_of_ble_eq_true rfl, Nat.le_of_ble_eq_true rfl⟩ (k_X5_init hU (List.mem_append_right _ (List.mem_singleton.mpr rfl)) (va_up_self _ _ _) (by decide) rfl (by decide)) (fun ω74 bZ => ?_)
  obtain ⟨q75, bZ, cZ⟩ := bZ
  obtain ⟨bZ, eZ⟩ := BT_call b71 hq73 bZ cZ
  have b76 := bZ
  clear bZ b71
  have c77 := eZ.trans c72
  clear cZ eZ
  show PR M 109 [(0, .ref h)] [.ref q73, .ref h] ω74 (11, 92)
  refine Y_putF C hI pf_X1_init_62 b76 c77 rfl rfl (Nat.le_of_ble_eq_true rfl) dX1_init_109 (fun ω78 bZ cZ => ?_)
  have b79 := bZ
  clear bZ b76
  have c80 : ω78.2 h = .inr (1, [.ref q1, .int (0 : Int32), .ref q11, .int (0 : Int32), .ref q21, .ref q28, .ref q35, .ref q42, .ref q49, .int (0 : Int32), .null, .int (-1 : Int32), .ref q65, .ref q73, .null, .null, .null]) := cZ
  clear cZ
  refine Z_aload_n C dX1_init_112 0 rfl ?_
  refine Z_new (fs := [.null, .int 0]) C hU (ci := 5) rfl (fun _ h => List.mem_cons_of_mem _ (List.mem_append_right _ h)) tyX5_ok (List.mem_of_getElem? (i := 18) rfl) (List.mem_of_getElem? (i := 19) rfl) (List.mem_of_getElem? (i := 20) rfl) dfX5 (Nat.le_of_ble_eq_true rfl) (Nat.le_of_ble_eq_true rfl) dX1_init_113 (fun q81 hq81 => ?_)
  show PR M 116 [(0, .ref h)] [.ref q81, .ref h] (rnew ω78 q81 (.inr (5, [.null, .int 0]))) (12, 94)
  refine Z_dup C dX1_init_116 rfl ?_
  refine Z_bipush C dX1_init_117 (v := (8 : Int32)) (by decide) ?_
  refine Z_ci (rc0 := (rmr 1 (0 + 1) (0 + 8))) (Qk := NB (mV M) 8 (rnew ω78 q81 (.inr (5, [.null, .int 0]))) q81) (b := q81) (As := [.int (8 : Int32)]) C ki_X1_init_X5_init_55  rfl (Nat.le_of_ble_eq_true rfl) dX1_init_119 ⟨Nat.le_of_ble_eq_true rfl, Nat.le_of_ble_eq_true rfl⟩ (k_X5_init hU (List.mem_append_right _ (List.mem_singleton.mpr rfl)) (va_up_self _ _ _) (by decide) rfl (by decide)) (fun ω82 bZ => ?_)
  obtain ⟨q83, bZ, cZ⟩ := bZ
  obtain ⟨bZ, eZ⟩ := BT_call b79 hq81 bZ cZ
  have b84 := bZ
  clear bZ b79
  have c85 := eZ.trans c80
  clear cZ eZ
  show PR M 122 [(0, .ref h)] [.ref q81, .ref h] ω82 (13, 102)
  refine Y_putF C hI pf_X1_init_65 b84 c85 rfl rfl (Nat.le_of_ble_eq_true rfl) dX1_init_122 (fun ω86 bZ cZ => ?_)
  have b87 := bZ
  clear bZ b84
  have c88 : ω86.2 h = .inr (1, [.ref q1, .int (0 : Int32), .ref q11, .int (0 : Int32), .ref q21, .ref q28, .ref q35, .ref q42, .ref q49, .int (0 : Int32), .null, .int (-1 : Int32), .ref q65, .ref q73, .ref q81, .null, .null]) := cZ
  clear cZ
  refine Z_aload_n C dX1_init_125 0 rfl ?_
  refine Z_bipush C dX1_init_126 (v := (6 : Int32)) (by decide) ?_
  refine Y_newa (t := 0) (a0 := (6, .inl (fun _ => 0))) C hU b87 (List.mem_of_getElem? (i := 7) rfl) rfl rfl (fun _ _ q => q) (fun _ => rfl) (by decide) rfl (by decide) (Nat.le_of_ble_eq_true rfl) (Nat.le_of_ble_eq_true rfl) dX1_init_128 (fun q89 ω90 bZ eZ => ?_)
  have b91 := bZ
  clear bZ b87
  have cZ := eZ.trans c88
  have c92 := cZ
  clear cZ eZ
  show PR M 130 [(0, .ref h)] [.ref q89, .ref h] ω90 (14, 108)
  refine Y_putF C hI pf_X1_init_68 b91 c92 rfl rfl (Nat.le_of_ble_eq_true rfl) dX1_init_130 (fun ω93 bZ cZ => ?_)
  have b94 := bZ
  clear bZ b91
  have c95 : ω93.2 h = .inr (1, [.ref q1, .int (0 : Int32), .ref q11, .int (0 : Int32), .ref q21, .ref q28, .ref q35, .ref q42, .ref q49, .int (0 : Int32), .null, .int (-1 : Int32), .ref q65, .ref q73, .ref q81, .ref q89, .null]) := cZ
  clear cZ
  refine Z_aload_n C dX1_init_133 0 rfl ?_
  refine Z_bipush C dX1_init_134 (v := (6 : Int32)) (by decide) ?_
  refine Y_newa (t := 0) (a0 := (6, .inl (fun _ => 0))) C hU b94 (List.mem_of_getElem? (i := 7) rfl) rfl rfl (fun _ _ q => q) (fun _ => rfl) (by decide) rfl (by decide) (Nat.le_of_ble_eq_true rfl) (Nat.le_of_ble_eq_true rfl) dX1_init_136 (fun q96 ω97 bZ eZ => ?_)
  have b98 := bZ
  clear bZ b94
  have cZ := eZ.trans c95
  have c99 := cZ
  clear cZ eZ
  show PR M 138 [(0, .ref h)] [.ref q96, .ref h] ω97 (15, 114)
  refine Y_putF C hI pf_X1_init_71 b98 c99 rfl rfl (Nat.le_of_ble_eq_true rfl) dX1_init_138 (fun ω100 bZ cZ => ?_)
  have b101 := bZ
  clear bZ b98
  have c102 : ω100.2 h = .inr (1, [.ref q1, .int (0 : Int32), .ref q11, .int (0 : Int32), .ref q21, .ref q28, .ref q35, .ref q42, .ref q49, .int (0 : Int32), .null, .int (-1 : Int32), .ref q65, .ref q73, .ref q81, .ref q89, .ref q96]) := cZ
  clear cZ
  exact Z_vret C dX1_init_141 ⟨q1, q11, q21, q28, q35, q42, q49, q65, q67, q73, q75, q81, q83, q89, q96, b101, c102⟩
