noncomputable def XB (V : Vx) (ω0 : RWd) (h : Nat) (ω : RWd) : Prop := ∃ q1 q3 q4 q5 q6 q7 q8 q9 q10 q11 q12 q13 q14 q15 q16 q17 q23 q25 q26 q27 q28 q29 q30 q31 q32 q33 q34 q35 q36 q37 q38 q39 q45 q47 q48 q49 q50 q51 q52 q53 q54 q55 q56 q57 q58 q59 q60 q61 q70 q80 q90 q97 q99 q105 q112 q119 q126 q128 q129 q130 q131 q143 q145 q151 q153 q159 q161 q167 q169 q175 q177 q183 q185 : Nat, BT ω0 ω h [(q1, .inr (1, [.ref q3, .int (0 : Int32), .ref q4, .int (0 : Int32), .ref q5, .ref q6, .ref q7, .ref q8, .ref q9, .int (0 : Int32), .ref q126, .int (-1 : Int32), .ref q10, .ref q12, .ref q14, .ref q16, .ref q17])), (q3, .inl (vC V 4, 6, .inr (.inr (.inr (.inr (fun _ => none)))))), (q4, .inl (vC V 0, (6, .inl (fun _ => 0)))), (q5, .inl (vC V 0, (6, .inl (fun _ => 0)))), (q6, .inl (vC V 0, (6, .inl (fun _ => 0)))), (q7, .inl (vC V 0, (6, .inl (fun _ => 0)))), (q8, .inl (vC V 0, (6, .inl (fun _ => 0)))), (q9, .inl (vC V 0, (24, .inl (fun _ => 0)))), (q10, .inr (5, [.ref q11, .int (0 : Int32)])), (q11, .inl (vC V 0, (18, .inl (fun _ => 0)))), (q12, .inr (5, [.ref q13, .int (0 : Int32)])), (q13, .inl (vC V 0, (10, .inl (fun _ => 0)))), (q14, .inr (5, [.ref q15, .int (0 : Int32)])), (q15, .inl (vC V 0, (8, .inl (fun _ => 0)))), (q16, .inl (vC V 0, (6, .inl (fun _ => 0)))), (q17, .inl (vC V 0, (6, .inl (fun _ => 0)))), (q23, .inr (1, [.ref q25, .int (0 : Int32), .ref q26, .int (0 : Int32), .ref q27, .ref q28, .ref q29, .ref q30, .ref q31, .int (0 : Int32), .ref q126, .int (-1 : Int32), .ref q32, .ref q34, .ref q36, .ref q38, .ref q39])), (q25, .inl (vC V 4, 6, .inr (.inr (.inr (.inr (fun _ => none)))))), (q26, .inl (vC V 0, (6, .inl (fun _ => 0)))), (q27, .inl (vC V 0, (6, .inl (fun _ => 0)))), (q28, .inl (vC V 0, (6, .inl (fun _ => 0)))), (q29, .inl (vC V 0, (6, .inl (fun _ => 0)))), (q30, .inl (vC V 0, (6, .inl (fun _ => 0)))), (q31, .inl (vC V 0, (24, .inl (fun _ => 0)))), (q32, .inr (5, [.ref q33, .int (0 : Int32)])), (q33, .inl (vC V 0, (18, .inl (fun _ => 0)))), (q34, .inr (5, [.ref q35, .int (0 : Int32)])), (q35, .inl (vC V 0, (10, .inl (fun _ => 0)))), (q36, .inr (5, [.ref q37, .int (0 : Int32)])), (q37, .inl (vC V 0, (8, .inl (fun _ => 0)))), (q38, .inl (vC V 0, (6, .inl (fun _ => 0)))), (q39, .inl (vC V 0, (6, .inl (fun _ => 0)))), (q45, .inr (1, [.ref q47, .int (0 : Int32), .ref q48, .int (0 : Int32), .ref q49, .ref q50, .ref q51, .ref q52, .ref q53, .int (0 : Int32), .ref q126, .int (-1 : Int32), .ref q54, .ref q56, .ref q58, .ref q60, .ref q61])), (q47, .inl (vC V 4, 6, .inr (.inr (.inr (.inr (fun _ => none)))))), (q48, .inl (vC V 0, (6, .inl (fun _ => 0)))), (q49, .inl (vC V 0, (6, .inl (fun _ => 0)))), (q50, .inl (vC V 0, (6, .inl (fun _ => 0)))), (q51, .inl (vC V 0, (6, .inl (fun _ => 0)))), (q52, .inl (vC V 0, (6, .inl (fun _ => 0)))), (q53, .inl (vC V 0, (24, .inl (fun _ => 0)))), (q54, .inr (5, [.ref q55, .int (0 : Int32)])), (q55, .inl (vC V 0, (18, .inl (fun _ => 0)))), (q56, .inr (5, [.ref q57, .int (0 : Int32)])), (q57, .inl (vC V 0, (10, .inl (fun _ => 0)))), (q58, .inr (5, [.ref q59, .int (0 : Int32)])), (q59, .inl (vC V 0, (8, .inl (fun _ => 0)))), (q60, .inl (vC V 0, (6, .inl (fun _ => 0)))), (q61, .inl (vC V 0, (6, .inl (fun _ => 0)))), (q70, .inl (vC V 5, 6, .inr (.inr (.inr (.inr (fun _ => none)))))), (q80, .inl (vC V 1, (100, .inl (fun _ => 0)))), (q90, .inl (vC V 6, 6, .inr (.inr (.inr (.inr (va_up (va_up (va_up (va_up (va_up (va_up (fun _ => none) 0 (some q143)) 1 (some q151)) 2 (some q159)) 3 (some q167)) 4 (some q175)) 5 (some q183))))))), (q97, .inr (5, [.ref q99, .int (0 : Int32)])), (q99, .inl (vC V 0, (20, .inl (fun _ => 0)))), (q105, .inl (vC V 0, (5, .inl (fun _ => 0)))), (q112, .inl (vC V 0, (5, .inl (fun _ => 0)))), (q119, .inl (vC V 0, (6, .inl (fun _ => 0)))), (q126, .inr (2, [.int (2 : Int32), .int (1 : Int32), .int (60 : Int32), .ref q128, .int (0 : Int32), .ref q129, .ref q130, .ref q131, .int (0 : Int32), .null, .int (0 : Int32), .int (0 : Int32)])), (q128, .inl (vC V 0, (100, .inl (fun _ => 0)))), (q129, .inl (vC V 0, (10, .inl (fun _ => 0)))), (q130, .inl (vC V 0, (10, .inl (fun _ => 0)))), (q131, .inl (vC V 0, (10, .inl (fun _ => 0)))), (q143, .inr (9, [.ref q145, .int (-1 : Int32), .int (0 : Int32)])), (q145, .inl (vC V 3, (60, .inr (.inl (fun _ => 0))))), (q151, .inr (9, [.ref q153, .int (-1 : Int32), .int (0 : Int32)])), (q153, .inl (vC V 3, (60, .inr (.inl (fun _ => 0))))), (q159, .inr (9, [.ref q161, .int (-1 : Int32), .int (0 : Int32)])), (q161, .inl (vC V 3, (60, .inr (.inl (fun _ => 0))))), (q167, .inr (9, [.ref q169, .int (-1 : Int32), .int (0 : Int32)])), (q169, .inl (vC V 3, (60, .inr (.inl (fun _ => 0))))), (q175, .inr (9, [.ref q177, .int (-1 : Int32), .int (0 : Int32)])), (q177, .inl (vC V 3, (60, .inr (.inl (fun _ => 0))))), (q183, .inr (9, [.ref q185, .int (-1 : Int32), .int (0 : Int32)])), (q185, .inl (vC V 3, (60, .inr (.inl (fun _ => 0)))))] ∧ ω.2 h = .inr (11, [.ref q1, .ref q23, .ref q45, .int (0 : Int32), .ref q70, .int (0 : Int32), .ref q80, .int (0 : Int32), .ref q90, .ref q97, .ref q105, .ref q112, .ref q119])
theorem ki_X11_init_X1_init_11 {c s c2 s2 : Nat} : KIN wsX11_init (rmr 3 c s) yX1_init wsX1_init (rmr 2 c2 s2) 0 := ⟨_, _, _, gX11_init_X1_init_n11, rfl, (List.mem_of_getElem? (i := 6) rfl), (List.mem_of_getElem? (i := 32) rfl), rfl, by decide +kernel, Nat.le_of_ble_eq_true rfl, Nat.le_of_ble_eq_true rfl⟩
theorem pf_X11_init_12 : PF RX11 wsX11_init 12 11 0 "NineMowers" (.object "NineMowers$Course") := by
  show _ ∧ _ ∧ _ ∧ _ ∧ _ ∧ _ ∧ _ ∧ _ ∧ _
  exact ⟨by decide +kernel, fun _ h => List.mem_cons_of_mem _ (List.mem_append_left _ (List.mem_append_left _ (List.mem_append_left _ (List.mem_append_right _ h)))), List.mem_of_getElem? (i := 7) rfl, rfl, rfl, rfl, by decide +kernel, ⟨tyX11, tyX11_ok⟩, nmX11⟩
theorem pf_X11_init_18 : PF RX11 wsX11_init 18 11 1 "NineMowers" (.object "NineMowers$Course") := by
  show _ ∧ _ ∧ _ ∧ _ ∧ _ ∧ _ ∧ _ ∧ _ ∧ _
  exact ⟨by decide +kernel, fun _ h => List.mem_cons_of_mem _ (List.mem_append_left _ (List.mem_append_left _ (List.mem_append_left _ (List.mem_append_right _ h)))), List.mem_of_getElem? (i := 8) rfl, rfl, rfl, rfl, by decide +kernel, ⟨tyX11, tyX11_ok⟩, nmX11⟩
theorem pf_X11_init_21 : PF RX11 wsX11_init 21 11 2 "NineMowers" (.object "NineMowers$Course") := by
  show _ ∧ _ ∧ _ ∧ _ ∧ _ ∧ _ ∧ _ ∧ _ ∧ _
  exact ⟨by decide +kernel, fun _ h => List.mem_cons_of_mem _ (List.mem_append_left _ (List.mem_append_left _ (List.mem_append_left _ (List.mem_append_right _ h)))), List.mem_of_getElem? (i := 9) rfl, rfl, rfl, rfl, by decide +kernel, ⟨tyX11, tyX11_ok⟩, nmX11⟩
theorem pa_X11_init_24 : PA RX11 wsX11_init 24 11 3 "NineMowers" .boolean := by
  show _ ∧ _ ∧ _ ∧ _ ∧ _ ∧ _ ∧ _ ∧ _
  exact ⟨by decide +kernel, fun _ h => List.mem_cons_of_mem _ (List.mem_append_left _ (List.mem_append_left _ (List.mem_append_left _ (List.mem_append_right _ h)))), List.mem_of_getElem? (i := 10) rfl, rfl, rfl, by decide +kernel, ⟨tyX11, tyX11_ok⟩, nmX11⟩
theorem pf_X11_init_30 : PF RX11 wsX11_init 30 11 4 "NineMowers" (.array (.object "NineMowers$Field")) := by
  show _ ∧ _ ∧ _ ∧ _ ∧ _ ∧ _ ∧ _ ∧ _ ∧ _
  exact ⟨by decide +kernel, fun _ h => List.mem_cons_of_mem _ (List.mem_append_left _ (List.mem_append_left _ (List.mem_append_left _ (List.mem_append_right _ h)))), List.mem_of_getElem? (i := 12) rfl, rfl, rfl, rfl, by decide +kernel, ⟨tyX11, tyX11_ok⟩, nmX11⟩
theorem pa_X11_init_34 : PA RX11 wsX11_init 34 11 5 "NineMowers" .int := by
  show _ ∧ _ ∧ _ ∧ _ ∧ _ ∧ _ ∧ _ ∧ _
  exact ⟨by decide +kernel, fun _ h => List.mem_cons_of_mem _ (List.mem_append_left _ (List.mem_append_left _ (List.mem_append_left _ (List.mem_append_right _ h)))), List.mem_of_getElem? (i := 13) rfl, rfl, rfl, by decide +kernel, ⟨tyX11, tyX11_ok⟩, nmX11⟩
theorem pf_X11_init_38 : PF RX11 wsX11_init 38 11 6 "NineMowers" (.array .byte) := by
  show _ ∧ _ ∧ _ ∧ _ ∧ _ ∧ _ ∧ _ ∧ _ ∧ _
  exact ⟨by decide +kernel, fun _ h => List.mem_cons_of_mem _ (List.mem_append_left _ (List.mem_append_left _ (List.mem_append_left _ (List.mem_append_right _ h)))), List.mem_of_getElem? (i := 15) rfl, rfl, rfl, rfl, by decide +kernel, ⟨tyX11, tyX11_ok⟩, nmX11⟩
theorem pa_X11_init_42 : PA RX11 wsX11_init 42 11 7 "NineMowers" .int := by
  show _ ∧ _ ∧ _ ∧ _ ∧ _ ∧ _ ∧ _ ∧ _
  exact ⟨by decide +kernel, fun _ h => List.mem_cons_of_mem _ (List.mem_append_left _ (List.mem_append_left _ (List.mem_append_left _ (List.mem_append_right _ h)))), List.mem_of_getElem? (i := 16) rfl, rfl, rfl, by decide +kernel, ⟨tyX11, tyX11_ok⟩, nmX11⟩
theorem pf_X11_init_47 : PF RX11 wsX11_init 47 11 8 "NineMowers" (.array (.object "NineMowers$Tape")) := by
  show _ ∧ _ ∧ _ ∧ _ ∧ _ ∧ _ ∧ _ ∧ _ ∧ _
  exact ⟨by decide +kernel, fun _ h => List.mem_cons_of_mem _ (List.mem_append_left _ (List.mem_append_left _ (List.mem_append_left _ (List.mem_append_right _ h)))), List.mem_of_getElem? (i := 18) rfl, rfl, rfl, rfl, by decide +kernel, ⟨tyX11, tyX11_ok⟩, nmX11⟩
theorem ki_X11_init_X5_init_53 {c s c2 s2 : Nat} : KI RX11 wsX11_init (rmr 3 c s) 53 yX5_init wsX5_init (rmr 1 c2 s2) 1 := ⟨_, _, _, gX11_init_X5_init, rfl, (List.mem_of_getElem? (i := 21) rfl), (List.mem_of_getElem? (i := 60) rfl), (List.mem_of_getElem? (i := 55) rfl), rfl, by decide +kernel, Nat.le_of_ble_eq_true rfl, Nat.le_of_ble_eq_true rfl⟩
theorem pf_X11_init_56 : PF RX11 wsX11_init 56 11 9 "NineMowers" (.object "NineMowers$Numbers") := by
  show _ ∧ _ ∧ _ ∧ _ ∧ _ ∧ _ ∧ _ ∧ _ ∧ _
  exact ⟨by decide +kernel, fun _ h => List.mem_cons_of_mem _ (List.mem_append_left _ (List.mem_append_left _ (List.mem_append_left _ (List.mem_append_right _ h)))), List.mem_of_getElem? (i := 22) rfl, rfl, rfl, rfl, by decide +kernel, ⟨tyX11, tyX11_ok⟩, nmX11⟩
theorem pf_X11_init_60 : PF RX11 wsX11_init 60 11 10 "NineMowers" (.array .int) := by
  show _ ∧ _ ∧ _ ∧ _ ∧ _ ∧ _ ∧ _ ∧ _ ∧ _
  exact ⟨by decide +kernel, fun _ h => List.mem_cons_of_mem _ (List.mem_append_left _ (List.mem_append_left _ (List.mem_append_left _ (List.mem_append_right _ h)))), List.mem_of_getElem? (i := 24) rfl, rfl, rfl, rfl, by decide +kernel, ⟨tyX11, tyX11_ok⟩, nmX11⟩
theorem pf_X11_init_64 : PF RX11 wsX11_init 64 11 11 "NineMowers" (.array .int) := by
  show _ ∧ _ ∧ _ ∧ _ ∧ _ ∧ _ ∧ _ ∧ _ ∧ _
  exact ⟨by decide +kernel, fun _ h => List.mem_cons_of_mem _ (List.mem_append_left _ (List.mem_append_left _ (List.mem_append_left _ (List.mem_append_right _ h)))), List.mem_of_getElem? (i := 25) rfl, rfl, rfl, rfl, by decide +kernel, ⟨tyX11, tyX11_ok⟩, nmX11⟩
theorem pf_X11_init_67 : PF RX11 wsX11_init 67 11 12 "NineMowers" (.array .int) := by
  show _ ∧ _ ∧ _ ∧ _ ∧ _ ∧ _ ∧ _ ∧ _ ∧ _
  exact ⟨by decide +kernel, fun _ h => List.mem_cons_of_mem _ (List.mem_append_left _ (List.mem_append_left _ (List.mem_append_left _ (List.mem_append_right _ h)))), List.mem_of_getElem? (i := 26) rfl, rfl, rfl, rfl, by decide +kernel, ⟨tyX11, tyX11_ok⟩, nmX11⟩
theorem ki_X11_init_X2_init_70 {c s c2 s2 : Nat} : KIN wsX11_init (rmr 3 c s) yX2_init wsX2_init (rmr 1 c2 s2) 0 := ⟨_, _, _, gX11_init_X2_init_n70, rfl, (List.mem_of_getElem? (i := 28) rfl), (List.mem_of_getElem? (i := 61) rfl), rfl, by decide +kernel, Nat.le_of_ble_eq_true rfl, Nat.le_of_ble_eq_true rfl⟩
theorem fa_X11_init_12 : FA RX11 wsX11_init 12 11 0 "NineMowers" := by
  show _ ∧ _ ∧ _ ∧ _
  exact ⟨by decide +kernel, fun _ h => List.mem_cons_of_mem _ (List.mem_append_left _ (List.mem_append_left _ (List.mem_append_left _ (List.mem_append_right _ h)))), List.mem_of_getElem? (i := 7) rfl, Or.inl rfl⟩
theorem pa_X11_init_71 : PA RX11 wsX11_init 71 1 10 "NineMowers$Course" (.object "NineMowers$Field") := by
  show _ ∧ _ ∧ _ ∧ _ ∧ _ ∧ _ ∧ _ ∧ _
  exact ⟨by decide +kernel, fun _ h => List.mem_cons_of_mem _ (List.mem_append_left _ (List.mem_append_left _ (List.mem_append_left _ (List.mem_append_left _ (List.mem_append_right _ h))))), List.mem_of_getElem? (i := 29) rfl, rfl, rfl, by decide +kernel, ⟨tyX1, tyX1_ok⟩, nmX1⟩
theorem fa_X11_init_18 : FA RX11 wsX11_init 18 11 1 "NineMowers" := by
  show _ ∧ _ ∧ _ ∧ _
  exact ⟨by decide +kernel, fun _ h => List.mem_cons_of_mem _ (List.mem_append_left _ (List.mem_append_left _ (List.mem_append_left _ (List.mem_append_right _ h)))), List.mem_of_getElem? (i := 8) rfl, Or.inl rfl⟩
theorem fa_X11_init_21 : FA RX11 wsX11_init 21 11 2 "NineMowers" := by
  show _ ∧ _ ∧ _ ∧ _
  exact ⟨by decide +kernel, fun _ h => List.mem_cons_of_mem _ (List.mem_append_left _ (List.mem_append_left _ (List.mem_append_left _ (List.mem_append_right _ h)))), List.mem_of_getElem? (i := 9) rfl, Or.inl rfl⟩
theorem fa_X11_init_47 : FA RX11 wsX11_init 47 11 8 "NineMowers" := by
  show _ ∧ _ ∧ _ ∧ _
  exact ⟨by decide +kernel, fun _ h => List.mem_cons_of_mem _ (List.mem_append_left _ (List.mem_append_left _ (List.mem_append_left _ (List.mem_append_right _ h)))), List.mem_of_getElem? (i := 18) rfl, Or.inl rfl⟩
theorem ki_X11_init_X9_init_75 {c s c2 s2 : Nat} : KIN wsX11_init (rmr 3 c s) yX9_init wsX9_init (rmr 1 c2 s2) 0 := ⟨_, _, _, gX11_init_X9_init_n75, rfl, (List.mem_of_getElem? (i := 31) rfl), (List.mem_of_getElem? (i := 76) rfl), rfl, by decide +kernel, Nat.le_of_ble_eq_true rfl, Nat.le_of_ble_eq_true rfl⟩
set_option maxRecDepth 100000 in
set_option maxHeartbeats 8000000 in
theorem k_X11_init {l : Launch} {V : Vx} {h : Nat} {ω0 : RWd} (hU : UPV V) (hm : h ∈ ω0.1) (c0 : ω0.2 h = .inr (11, [.null, .null, .null, .int 0, .null, .int 0, .null, .int 0, .null, .null, .null, .null, .null])) : KrN l V yX11_init wsX11_init (rmr 3 73 (1063)) 73 (1063) [.ref h] ω0 (QRV V (XB V ω0 h)) := by
  refine KrN_of (by decide +kernel) rfl rfl (Nat.le_of_ble_eq_true rfl) (fun M hl hV hN C hNW hI => ?_)
  subst hl
  subst hV
  replace hI := hI rfl
  have b0 := BT_0 hm
  show PR M 0 [(0, .ref h)] [] ω0 (0, 0)
  refine Z_aload_n C dX11_init_0 0 rfl ?_
  refine Z_objInit C (List.mem_of_getElem? (i := 1) rfl) (List.mem_of_getElem? (i := 2) rfl) (List.mem_of_getElem? (i := 3) rfl) (Nat.le_of_ble_eq_true rfl) (Nat.le_of_ble_eq_true rfl) dX11_init_1 ?_
  refine Z_aload_n C dX11_init_4 0 rfl ?_
  refine Z_new (fs := [.null, .int 0, .null, .int 0, .null, .null, .null, .null, .null, .int 0, .null, .int 0, .null, .null, .null, .null, .null]) C hU (ci := 1) rfl (fun _ h => List.mem_cons_of_mem _ (List.mem_append_left _ (List.mem_append_left _ (List.mem_append_left _ (List.mem_append_left _ (List.mem_append_right _ h)))))) tyX1_ok (List.mem_of_getElem? (i := 4) rfl) (List.mem_of_getElem? (i := 5) rfl) (List.mem_of_getElem? (i := 6) rfl) dfX1 (Nat.le_of_ble_eq_true rfl) (Nat.le_of_ble_eq_true rfl) dX11_init_5 (fun q1 hq1 => ?_)
  show PR M 8 [(0, .ref h)] [.ref q1, .ref h] (rnew ω0 q1 (.inr (1, [.null, .int 0, .null, .int 0, .null, .null, .null, .null, .null, .int 0, .null, .int 0, .null, .null, .null, .null, .null]))) (1, 17)
  refine Z_dup C dX11_init_8 rfl ?_
  refine Z_ciN (rc0 := (rmr 2 15 (114))) (Qk := CB (mV M) (rnew ω0 q1 (.inr (1, [.null, .int 0, .null, .int 0, .null, .null, .null, .null, .null, .int 0, .null, .int 0, .null, .null, .null, .null, .null]))) q1) (b := q1) (As := []) C ki_X11_init_X1_init_11 (fun h9 => h9.1) hNW rfl (Nat.le_of_ble_eq_true rfl) dX11_init_9 ⟨Nat.le_of_ble_eq_true rfl, Nat.le_of_ble_eq_true rfl⟩ (k_X1_init hU (List.mem_append_right _ (List.mem_singleton.mpr rfl)) (va_up_self _ _ _) ) (fun ω2 bZ => ?_)
  obtain ⟨q3, q4, q5, q6, q7, q8, q9, q10, q11, q12, q13, q14, q15, q16, q17, bZ, cZ⟩ := bZ
  obtain ⟨bZ, eZ⟩ := BT_call b0 hq1 bZ cZ
  have b18 := bZ
  clear bZ 
  have c19 := eZ.trans c0
  clear cZ eZ
  show PR M 12 [(0, .ref h)] [.ref q1, .ref h] ω2 (16, 131)
  refine Y_putF C hI pf_X11_init_12 b18 c19 rfl rfl (Nat.le_of_ble_eq_true rfl) dX11_init_12 (fun ω20 bZ cZ => ?_)
  have b21 := bZ
  clear bZ b18
  have c22 : ω20.2 h = .inr (11, [.ref q1, .null, .null, .int 0, .null, .int 0, .null, .int 0, .null, .null, .null, .null, .null]) := cZ
  clear cZ
  refine Z_aload_n C dX11_init_15 0 rfl ?_
  refine Z_new (fs := [.null, .int 0, .null, .int 0, .null, .null, .null, .null, .null, .int 0, .null, .int 0, .null, .null, .null, .null, .null]) C hU (ci := 1) rfl (fun _ h => List.mem_cons_of_mem _ (List.mem_append_left _ (List.mem_append_left _ (List.mem_append_left _ (List.mem_append_left _ (List.mem_append_right _ h)))))) tyX1_ok (List.mem_of_getElem? (i := 4) rfl) (List.mem_of_getElem? (i := 5) rfl) (List.mem_of_getElem? (i := 6) rfl) dfX1 (Nat.le_of_ble_eq_true rfl) (Nat.le_of_ble_eq_true rfl) dX11_init_16 (fun q23 hq23 => ?_)
  show PR M 19 [(0, .ref h)] [.ref q23, .ref h] (rnew ω20 q23 (.inr (1, [.null, .int 0, .null, .int 0, .null, .null, .null, .null, .null, .int 0, .null, .int 0, .null, .null, .null, .null, .null]))) (17, 148)
  refine Z_dup C dX11_init_19 rfl ?_
  refine Z_ciN (rc0 := (rmr 2 15 (114))) (Qk := CB (mV M) (rnew ω20 q23 (.inr (1, [.null, .int 0, .null, .int 0, .null, .null, .null, .null, .null, .int 0, .null, .int 0, .null, .null, .null, .null, .null]))) q23) (b := q23) (As := []) C ki_X11_init_X1_init_11 (fun h9 => h9.1) hNW rfl (Nat.le_of_ble_eq_true rfl) dX11_init_20 ⟨Nat.le_of_ble_eq_true rfl, Nat.le_of_ble_eq_true rfl⟩ (k_X1_init hU (List.mem_append_right _ (List.mem_singleton.mpr rfl)) (va_up_self _ _ _) ) (fun ω24 bZ => ?_)
  obtain ⟨q25, q26, q27, q28, q29, q30, q31, q32, q33, q34, q35, q36, q37, q38, q39, bZ, cZ⟩ := bZ
  obtain ⟨bZ, eZ⟩ := BT_call b21 hq23 bZ cZ
  have b40 := bZ
  clear bZ b21
  have c41 := eZ.trans c22
  clear cZ eZ
  show PR M 23 [(0, .ref h)] [.ref q23, .ref h] ω24 (32, 262)
  refine Y_putF C hI pf_X11_init_18 b40 c41 rfl rfl (Nat.le_of_ble_eq_true rfl) dX11_init_23 (fun ω42 bZ cZ => ?_)
  have b43 := bZ
  clear bZ b40
  have c44 : ω42.2 h = .inr (11, [.ref q1, .ref q23, .null, .int 0, .null, .int 0, .null, .int 0, .null, .null, .null, .null, .null]) := cZ
  clear cZ
  refine Z_aload_n C dX11_init_26 0 rfl ?_
  refine Z_new (fs := [.null, .int 0, .null, .int 0, .null, .null, .null, .null, .null, .int 0, .null, .int 0, .null, .null, .null, .null, .null]) C hU (ci := 1) rfl (fun _ h => List.mem_cons_of_mem _ (List.mem_append_left _ (List.mem_append_left _ (List.mem_append_left _ (List.mem_append_left _ (List.mem_append_right _ h)))))) tyX1_ok (List.mem_of_getElem? (i := 4) rfl) (List.mem_of_getElem? (i := 5) rfl) (List.mem_of_getElem? (i := 6) rfl) dfX1 (Nat.le_of_ble_eq_true rfl) (Nat.le_of_ble_eq_true rfl) dX11_init_27 (fun q45 hq45 => ?_)
  show PR M 30 [(0, .ref h)] [.ref q45, .ref h] (rnew ω42 q45 (.inr (1, [.null, .int 0, .null, .int 0, .null, .null, .null, .null, .null, .int 0, .null, .int 0, .null, .null, .null, .null, .null]))) (33, 279)
  refine Z_dup C dX11_init_30 rfl ?_
  refine Z_ciN (rc0 := (rmr 2 15 (114))) (Qk := CB (mV M) (rnew ω42 q45 (.inr (1, [.null, .int 0, .null, .int 0, .null, .null, .null, .null, .null, .int 0, .null, .int 0, .null, .null, .null, .null, .null]))) q45) (b := q45) (As := []) C ki_X11_init_X1_init_11 (fun h9 => h9.1) hNW rfl (Nat.le_of_ble_eq_true rfl) dX11_init_31 ⟨Nat.le_of_ble_eq_true rfl, Nat.le_of_ble_eq_true rfl⟩ (k_X1_init hU (List.mem_append_right _ (List.mem_singleton.mpr rfl)) (va_up_self _ _ _) ) (fun ω46 bZ => ?_)
  obtain ⟨q47, q48, q49, q50, q51, q52, q53, q54, q55, q56, q57, q58, q59, q60, q61, bZ, cZ⟩ := bZ
  obtain ⟨bZ, eZ⟩ := BT_call b43 hq45 bZ cZ
  have b62 := bZ
  clear bZ b43
  have c63 := eZ.trans c44
  clear cZ eZ
  show PR M 34 [(0, .ref h)] [.ref q45, .ref h] ω46 (48, 393)
  refine Y_putF C hI pf_X11_init_21 b62 c63 rfl rfl (Nat.le_of_ble_eq_true rfl) dX11_init_34 (fun ω64 bZ cZ => ?_)
  have b65 := bZ
  clear bZ b62
  have c66 : ω64.2 h = .inr (11, [.ref q1, .ref q23, .ref q45, .int 0, .null, .int 0, .null, .int 0, .null, .null, .null, .null, .null]) := cZ
  clear cZ
  refine Z_aload_n C dX11_init_37 0 rfl ?_
  refine Z_iconst C dX11_init_38 (v := (0 : Int32)) (by decide +kernel) ?_
  refine Y_put C pa_X11_init_24 b65 c66 rfl rfl (Nat.le_of_ble_eq_true rfl) dX11_init_39 (fun ω67 bZ cZ => ?_)
  have b68 := bZ
  clear bZ b65
  have c69 : ω67.2 h = .inr (11, [.ref q1, .ref q23, .ref q45, .int (0 : Int32), .null, .int 0, .null, .int 0, .null, .null, .null, .null, .null]) := cZ
  clear cZ
  refine Z_aload_n C dX11_init_42 0 rfl ?_
  refine Z_bipush C dX11_init_43 (v := (6 : Int32)) (by decide +kernel) ?_
  refine Y_newq (t := 5) C hU b68 (fun U h => (hU U h).2.2.1) rfl (List.mem_of_getElem? (i := 11) rfl) (by decide +kernel) rfl (by decide +kernel) (Nat.le_of_ble_eq_true rfl) (Nat.le_of_ble_eq_true rfl) dX11_init_45 (fun q70 ω71 bZ eZ => ?_)
  have b72 := bZ
  clear bZ b68
  have c73 := eZ.trans c69
  clear eZ
  show PR M 48 [(0, .ref h)] [.ref q70, .ref h] ω71 (49, 399)
  refine Y_putF C hI pf_X11_init_30 b72 c73 rfl rfl (Nat.le_of_ble_eq_true rfl) dX11_init_48 (fun ω74 bZ cZ => ?_)
  have b75 := bZ
  clear bZ b72
  have c76 : ω74.2 h = .inr (11, [.ref q1, .ref q23, .ref q45, .int (0 : Int32), .ref q70, .int 0, .null, .int 0, .null, .null, .null, .null, .null]) := cZ
  clear cZ
  refine Z_aload_n C dX11_init_51 0 rfl ?_
  refine Z_iconst C dX11_init_52 (v := (0 : Int32)) (by decide +kernel) ?_
  refine Y_put C pa_X11_init_34 b75 c76 rfl rfl (Nat.le_of_ble_eq_true rfl) dX11_init_53 (fun ω77 bZ cZ => ?_)
  have b78 := bZ
  clear bZ b75
  have c79 : ω77.2 h = .inr (11, [.ref q1, .ref q23, .ref q45, .int (0 : Int32), .ref q70, .int (0 : Int32), .null, .int 0, .null, .null, .null, .null, .null]) := cZ
  clear cZ
  refine Z_aload_n C dX11_init_56 0 rfl ?_
  refine Z_bipush C dX11_init_57 (v := (100 : Int32)) (by decide +kernel) ?_
  refine Y_newa (t := 1) (a0 := (100, .inl (fun _ => 0))) C hU b78 (List.mem_of_getElem? (i := 14) rfl) rfl rfl (fun _ _ q => q) (fun _ => rfl) (by decide +kernel) rfl (by decide +kernel) (Nat.le_of_ble_eq_true rfl) (Nat.le_of_ble_eq_true rfl) dX11_init_59 (fun q80 ω81 bZ eZ => ?_)
  have b82 := bZ
  clear bZ b78
  have cZ := eZ.trans c79
  have c83 := cZ
  clear cZ eZ
  show PR M 61 [(0, .ref h)] [.ref q80, .ref h] ω81 (50, 499)
  refine Y_putF C hI pf_X11_init_38 b82 c83 rfl rfl (Nat.le_of_ble_eq_true rfl) dX11_init_61 (fun ω84 bZ cZ => ?_)
  have b85 := bZ
  clear bZ b82
  have c86 : ω84.2 h = .inr (11, [.ref q1, .ref q23, .ref q45, .int (0 : Int32), .ref q70, .int (0 : Int32), .ref q80, .int 0, .null, .null, .null, .null, .null]) := cZ
  clear cZ
  refine Z_aload_n C dX11_init_64 0 rfl ?_
  refine Z_iconst C dX11_init_65 (v := (0 : Int32)) (by decide +kernel) ?_
  refine Y_put C pa_X11_init_42 b85 c86 rfl rfl (Nat.le_of_ble_eq_true rfl) dX11_init_66 (fun ω87 bZ cZ => ?_)
  have b88 := bZ
  clear bZ b85
  have c89 : ω87.2 h = .inr (11, [.ref q1, .ref q23, .ref q45, .int (0 : Int32), .ref q70, .int (0 : Int32), .ref q80, .int (0 : Int32), .null, .null, .null, .null, .null]) := cZ
  clear cZ
  refine Z_aload_n C dX11_init_69 0 rfl ?_
  refine Z_bipush C dX11_init_70 (v := (6 : Int32)) (by decide +kernel) ?_
  refine Y_newq (t := 6) C hU b88 (fun U h => (hU U h).2.2.2) rfl (List.mem_of_getElem? (i := 17) rfl) (by decide +kernel) rfl (by decide +kernel) (Nat.le_of_ble_eq_true rfl) (Nat.le_of_ble_eq_true rfl) dX11_init_72 (fun q90 ω91 bZ eZ => ?_)
  have b92 := bZ
  clear bZ b88
  have c93 := eZ.trans c89
  clear eZ
  show PR M 75 [(0, .ref h)] [.ref q90, .ref h] ω91 (51, 505)
  refine Y_putF C hI pf_X11_init_47 b92 c93 rfl rfl (Nat.le_of_ble_eq_true rfl) dX11_init_75 (fun ω94 bZ cZ => ?_)
  have b95 := bZ
  clear bZ b92
  have c96 : ω94.2 h = .inr (11, [.ref q1, .ref q23, .ref q45, .int (0 : Int32), .ref q70, .int (0 : Int32), .ref q80, .int (0 : Int32), .ref q90, .null, .null, .null, .null]) := cZ
  clear cZ
  refine Z_aload_n C dX11_init_78 0 rfl ?_
  refine Z_new (fs := [.null, .int 0]) C hU (ci := 5) rfl (fun _ h => List.mem_cons_of_mem _ (List.mem_append_left _ (List.mem_append_left _ (List.mem_append_right _ h)))) tyX5_ok (List.mem_of_getElem? (i := 19) rfl) (List.mem_of_getElem? (i := 20) rfl) (List.mem_of_getElem? (i := 21) rfl) dfX5 (Nat.le_of_ble_eq_true rfl) (Nat.le_of_ble_eq_true rfl) dX11_init_79 (fun q97 hq97 => ?_)
  show PR M 82 [(0, .ref h)] [.ref q97, .ref h] (rnew ω94 q97 (.inr (5, [.null, .int 0]))) (52, 507)
  refine Z_dup C dX11_init_82 rfl ?_
  refine Z_bipush C dX11_init_83 (v := (20 : Int32)) (by decide +kernel) ?_
  refine Z_ci (rc0 := (rmr 1 (0 + 1) (0 + 20))) (Qk := NB (mV M) 20 (rnew ω94 q97 (.inr (5, [.null, .int 0]))) q97) (b := q97) (As := [.int (20 : Int32)]) C ki_X11_init_X5_init_53  rfl (Nat.le_of_ble_eq_true rfl) dX11_init_85 ⟨Nat.le_of_ble_eq_true rfl, Nat.le_of_ble_eq_true rfl⟩ (k_X5_init hU (List.mem_append_right _ (List.mem_singleton.mpr rfl)) (va_up_self _ _ _) (by decide +kernel) rfl (by decide +kernel)) (fun ω98 bZ => ?_)
  obtain ⟨q99, bZ, cZ⟩ := bZ
  obtain ⟨bZ, eZ⟩ := BT_call b95 hq97 bZ cZ
  have b100 := bZ
  clear bZ b95
  have c101 := eZ.trans c96
  clear cZ eZ
  show PR M 88 [(0, .ref h)] [.ref q97, .ref h] ω98 (53, 527)
  refine Y_putF C hI pf_X11_init_56 b100 c101 rfl rfl (Nat.le_of_ble_eq_true rfl) dX11_init_88 (fun ω102 bZ cZ => ?_)
  have b103 := bZ
  clear bZ b100
  have c104 : ω102.2 h = .inr (11, [.ref q1, .ref q23, .ref q45, .int (0 : Int32), .ref q70, .int (0 : Int32), .ref q80, .int (0 : Int32), .ref q90, .ref q97, .null, .null, .null]) := cZ
  clear cZ
  refine Z_aload_n C dX11_init_91 0 rfl ?_
  refine Z_iconst C dX11_init_92 (v := (5 : Int32)) (by decide +kernel) ?_
  refine Y_newa (t := 0) (a0 := (5, .inl (fun _ => 0))) C hU b103 (List.mem_of_getElem? (i := 23) rfl) rfl rfl (fun _ _ q => q) (fun _ => rfl) (by decide +kernel) rfl (by decide +kernel) (Nat.le_of_ble_eq_true rfl) (Nat.le_of_ble_eq_true rfl) dX11_init_93 (fun q105 ω106 bZ eZ => ?_)
  have b107 := bZ
  clear bZ b103
  have cZ := eZ.trans c104
  have c108 := cZ
  clear cZ eZ
  show PR M 95 [(0, .ref h)] [.ref q105, .ref h] ω106 (54, 532)
  refine Y_putF C hI pf_X11_init_60 b107 c108 rfl rfl (Nat.le_of_ble_eq_true rfl) dX11_init_95 (fun ω109 bZ cZ => ?_)
  have b110 := bZ
  clear bZ b107
  have c111 : ω109.2 h = .inr (11, [.ref q1, .ref q23, .ref q45, .int (0 : Int32), .ref q70, .int (0 : Int32), .ref q80, .int (0 : Int32), .ref q90, .ref q97, .ref q105, .null, .null]) := cZ
  clear cZ
  refine Z_aload_n C dX11_init_98 0 rfl ?_
  refine Z_iconst C dX11_init_99 (v := (5 : Int32)) (by decide +kernel) ?_
  refine Y_newa (t := 0) (a0 := (5, .inl (fun _ => 0))) C hU b110 (List.mem_of_getElem? (i := 23) rfl) rfl rfl (fun _ _ q => q) (fun _ => rfl) (by decide +kernel) rfl (by decide +kernel) (Nat.le_of_ble_eq_true rfl) (Nat.le_of_ble_eq_true rfl) dX11_init_100 (fun q112 ω113 bZ eZ => ?_)
  have b114 := bZ
  clear bZ b110
  have cZ := eZ.trans c111
  have c115 := cZ
  clear cZ eZ
  show PR M 102 [(0, .ref h)] [.ref q112, .ref h] ω113 (55, 537)
  refine Y_putF C hI pf_X11_init_64 b114 c115 rfl rfl (Nat.le_of_ble_eq_true rfl) dX11_init_102 (fun ω116 bZ cZ => ?_)
  have b117 := bZ
  clear bZ b114
  have c118 : ω116.2 h = .inr (11, [.ref q1, .ref q23, .ref q45, .int (0 : Int32), .ref q70, .int (0 : Int32), .ref q80, .int (0 : Int32), .ref q90, .ref q97, .ref q105, .ref q112, .null]) := cZ
  clear cZ
  refine Z_aload_n C dX11_init_105 0 rfl ?_
  refine Z_bipush C dX11_init_106 (v := (6 : Int32)) (by decide +kernel) ?_
  refine Y_newa (t := 0) (a0 := (6, .inl (fun _ => 0))) C hU b117 (List.mem_of_getElem? (i := 23) rfl) rfl rfl (fun _ _ q => q) (fun _ => rfl) (by decide +kernel) rfl (by decide +kernel) (Nat.le_of_ble_eq_true rfl) (Nat.le_of_ble_eq_true rfl) dX11_init_108 (fun q119 ω120 bZ eZ => ?_)
  have b121 := bZ
  clear bZ b117
  have cZ := eZ.trans c118
  have c122 := cZ
  clear cZ eZ
  show PR M 110 [(0, .ref h)] [.ref q119, .ref h] ω120 (56, 543)
  refine Y_putF C hI pf_X11_init_67 b121 c122 rfl rfl (Nat.le_of_ble_eq_true rfl) dX11_init_110 (fun ω123 bZ cZ => ?_)
  have b124 := bZ
  clear bZ b121
  have c125 : ω123.2 h = .inr (11, [.ref q1, .ref q23, .ref q45, .int (0 : Int32), .ref q70, .int (0 : Int32), .ref q80, .int (0 : Int32), .ref q90, .ref q97, .ref q105, .ref q112, .ref q119]) := cZ
  clear cZ
  refine Z_new (fs := [.int 0, .int 0, .int 0, .null, .int 0, .null, .null, .null, .int 0, .null, .int 0, .int 0]) C hU (ci := 2) rfl (fun _ h => List.mem_cons_of_mem _ (List.mem_append_left _ (List.mem_append_right _ h))) tyX2_ok (List.mem_of_getElem? (i := 11) rfl) (List.mem_of_getElem? (i := 27) rfl) (List.mem_of_getElem? (i := 28) rfl) dfX2 (Nat.le_of_ble_eq_true rfl) (Nat.le_of_ble_eq_true rfl) dX11_init_113 (fun q126 hq126 => ?_)
  show PR M 116 [(0, .ref h)] [.ref q126] (rnew ω123 q126 (.inr (2, [.int 0, .int 0, .int 0, .null, .int 0, .null, .null, .null, .int 0, .null, .int 0, .int 0]))) (57, 555)
  refine Z_dup C dX11_init_116 rfl ?_
  refine Z_ciN (rc0 := (rmr 1 4 (130))) (Qk := FB (mV M) (rnew ω123 q126 (.inr (2, [.int 0, .int 0, .int 0, .null, .int 0, .null, .null, .null, .int 0, .null, .int 0, .int 0]))) q126) (b := q126) (As := []) C ki_X11_init_X2_init_70 (fun h9 => h9.2.1) hNW rfl (Nat.le_of_ble_eq_true rfl) dX11_init_117 ⟨Nat.le_of_ble_eq_true rfl, Nat.le_of_ble_eq_true rfl⟩ (k_X2_init hU (List.mem_append_right _ (List.mem_singleton.mpr rfl)) (va_up_self _ _ _) ) (fun ω127 bZ => ?_)
  obtain ⟨q128, q129, q130, q131, bZ, cZ⟩ := bZ
  obtain ⟨bZ, eZ⟩ := BT_call b124 hq126 bZ cZ
  have b132 := bZ
  clear bZ b124
  have c133 := eZ.trans c125
  clear cZ eZ
  show PR M 120 [(0, .ref h)] [.ref q126] ω127 (61, 685)
  refine Z_astore_n C dX11_init_120 (by rw [hN]; decide) rfl ?_
  refine Z_aload_n C dX11_init_121 1 rfl ?_
  refine Y_get C fa_X11_init_12 b132 c133 rfl dX11_init_122 ?_
  refine Z_aload_n C dX11_init_125 0 rfl ?_
  refine Y_putP (i := 0) C pa_X11_init_71 b132 rfl rfl rfl (Nat.le_of_ble_eq_true rfl) dX11_init_126 (fun ω134 bZ eZ => ?_)
  have b135 : BT ω0 ω134 h [(q1, .inr (1, [.ref q3, .int (0 : Int32), .ref q4, .int (0 : Int32), .ref q5, .ref q6, .ref q7, .ref q8, .ref q9, .int (0 : Int32), .ref q126, .int (-1 : Int32), .ref q10, .ref q12, .ref q14, .ref q16, .ref q17])), (q3, .inl (vC (mV M) 4, 6, .inr (.inr (.inr (.inr (fun _ => none)))))), (q4, .inl (vC (mV M) 0, (6, .inl (fun _ => 0)))), (q5, .inl (vC (mV M) 0, (6, .inl (fun _ => 0)))), (q6, .inl (vC (mV M) 0, (6, .inl (fun _ => 0)))), (q7, .inl (vC (mV M) 0, (6, .inl (fun _ => 0)))), (q8, .inl (vC (mV M) 0, (6, .inl (fun _ => 0)))), (q9, .inl (vC (mV M) 0, (24, .inl (fun _ => 0)))), (q10, .inr (5, [.ref q11, .int (0 : Int32)])), (q11, .inl (vC (mV M) 0, (18, .inl (fun _ => 0)))), (q12, .inr (5, [.ref q13, .int (0 : Int32)])), (q13, .inl (vC (mV M) 0, (10, .inl (fun _ => 0)))), (q14, .inr (5, [.ref q15, .int (0 : Int32)])), (q15, .inl (vC (mV M) 0, (8, .inl (fun _ => 0)))), (q16, .inl (vC (mV M) 0, (6, .inl (fun _ => 0)))), (q17, .inl (vC (mV M) 0, (6, .inl (fun _ => 0)))), (q23, .inr (1, [.ref q25, .int (0 : Int32), .ref q26, .int (0 : Int32), .ref q27, .ref q28, .ref q29, .ref q30, .ref q31, .int (0 : Int32), .null, .int (-1 : Int32), .ref q32, .ref q34, .ref q36, .ref q38, .ref q39])), (q25, .inl (vC (mV M) 4, 6, .inr (.inr (.inr (.inr (fun _ => none)))))), (q26, .inl (vC (mV M) 0, (6, .inl (fun _ => 0)))), (q27, .inl (vC (mV M) 0, (6, .inl (fun _ => 0)))), (q28, .inl (vC (mV M) 0, (6, .inl (fun _ => 0)))), (q29, .inl (vC (mV M) 0, (6, .inl (fun _ => 0)))), (q30, .inl (vC (mV M) 0, (6, .inl (fun _ => 0)))), (q31, .inl (vC (mV M) 0, (24, .inl (fun _ => 0)))), (q32, .inr (5, [.ref q33, .int (0 : Int32)])), (q33, .inl (vC (mV M) 0, (18, .inl (fun _ => 0)))), (q34, .inr (5, [.ref q35, .int (0 : Int32)])), (q35, .inl (vC (mV M) 0, (10, .inl (fun _ => 0)))), (q36, .inr (5, [.ref q37, .int (0 : Int32)])), (q37, .inl (vC (mV M) 0, (8, .inl (fun _ => 0)))), (q38, .inl (vC (mV M) 0, (6, .inl (fun _ => 0)))), (q39, .inl (vC (mV M) 0, (6, .inl (fun _ => 0)))), (q45, .inr (1, [.ref q47, .int (0 : Int32), .ref q48, .int (0 : Int32), .ref q49, .ref q50, .ref q51, .ref q52, .ref q53, .int (0 : Int32), .null, .int (-1 : Int32), .ref q54, .ref q56, .ref q58, .ref q60, .ref q61])), (q47, .inl (vC (mV M) 4, 6, .inr (.inr (.inr (.inr (fun _ => none)))))), (q48, .inl (vC (mV M) 0, (6, .inl (fun _ => 0)))), (q49, .inl (vC (mV M) 0, (6, .inl (fun _ => 0)))), (q50, .inl (vC (mV M) 0, (6, .inl (fun _ => 0)))), (q51, .inl (vC (mV M) 0, (6, .inl (fun _ => 0)))), (q52, .inl (vC (mV M) 0, (6, .inl (fun _ => 0)))), (q53, .inl (vC (mV M) 0, (24, .inl (fun _ => 0)))), (q54, .inr (5, [.ref q55, .int (0 : Int32)])), (q55, .inl (vC (mV M) 0, (18, .inl (fun _ => 0)))), (q56, .inr (5, [.ref q57, .int (0 : Int32)])), (q57, .inl (vC (mV M) 0, (10, .inl (fun _ => 0)))), (q58, .inr (5, [.ref q59, .int (0 : Int32)])), (q59, .inl (vC (mV M) 0, (8, .inl (fun _ => 0)))), (q60, .inl (vC (mV M) 0, (6, .inl (fun _ => 0)))), (q61, .inl (vC (mV M) 0, (6, .inl (fun _ => 0)))), (q70, .inl (vC (mV M) 5, 6, .inr (.inr (.inr (.inr (fun _ => none)))))), (q80, .inl (vC (mV M) 1, (100, .inl (fun _ => 0)))), (q90, .inl (vC (mV M) 6, 6, .inr (.inr (.inr (.inr (fun _ => none)))))), (q97, .inr (5, [.ref q99, .int (0 : Int32)])), (q99, .inl (vC (mV M) 0, (20, .inl (fun _ => 0)))), (q105, .inl (vC (mV M) 0, (5, .inl (fun _ => 0)))), (q112, .inl (vC (mV M) 0, (5, .inl (fun _ => 0)))), (q119, .inl (vC (mV M) 0, (6, .inl (fun _ => 0)))), (q126, .inr (2, [.int (2 : Int32), .int (1 : Int32), .int (60 : Int32), .ref q128, .int (0 : Int32), .ref q129, .ref q130, .ref q131, .int (0 : Int32), .null, .int (0 : Int32), .int (0 : Int32)])), (q128, .inl (vC (mV M) 0, (100, .inl (fun _ => 0)))), (q129, .inl (vC (mV M) 0, (10, .inl (fun _ => 0)))), (q130, .inl (vC (mV M) 0, (10, .inl (fun _ => 0)))), (q131, .inl (vC (mV M) 0, (10, .inl (fun _ => 0))))] := bZ
  clear bZ b132
  have c136 := eZ.trans c133
  clear eZ
  refine Z_aload_n C dX11_init_129 1 rfl ?_
  refine Y_get C fa_X11_init_18 b135 c136 rfl dX11_init_130 ?_
  refine Z_aload_n C dX11_init_133 0 rfl ?_
  refine Y_putP (i := 16) C pa_X11_init_71 b135 rfl rfl rfl (Nat.le_of_ble_eq_true rfl) dX11_init_134 (fun ω137 bZ eZ => ?_)
  have b138 : BT ω0 ω137 h [(q1, .inr (1, [.ref q3, .int (0 : Int32), .ref q4, .int (0 : Int32), .ref q5, .ref q6, .ref q7, .ref q8, .ref q9, .int (0 : Int32), .ref q126, .int (-1 : Int32), .ref q10, .ref q12, .ref q14, .ref q16, .ref q17])), (q3, .inl (vC (mV M) 4, 6, .inr (.inr (.inr (.inr (fun _ => none)))))), (q4, .inl (vC (mV M) 0, (6, .inl (fun _ => 0)))), (q5, .inl (vC (mV M) 0, (6, .inl (fun _ => 0)))), (q6, .inl (vC (mV M) 0, (6, .inl (fun _ => 0)))), (q7, .inl (vC (mV M) 0, (6, .inl (fun _ => 0)))), (q8, .inl (vC (mV M) 0, (6, .inl (fun _ => 0)))), (q9, .inl (vC (mV M) 0, (24, .inl (fun _ => 0)))), (q10, .inr (5, [.ref q11, .int (0 : Int32)])), (q11, .inl (vC (mV M) 0, (18, .inl (fun _ => 0)))), (q12, .inr (5, [.ref q13, .int (0 : Int32)])), (q13, .inl (vC (mV M) 0, (10, .inl (fun _ => 0)))), (q14, .inr (5, [.ref q15, .int (0 : Int32)])), (q15, .inl (vC (mV M) 0, (8, .inl (fun _ => 0)))), (q16, .inl (vC (mV M) 0, (6, .inl (fun _ => 0)))), (q17, .inl (vC (mV M) 0, (6, .inl (fun _ => 0)))), (q23, .inr (1, [.ref q25, .int (0 : Int32), .ref q26, .int (0 : Int32), .ref q27, .ref q28, .ref q29, .ref q30, .ref q31, .int (0 : Int32), .ref q126, .int (-1 : Int32), .ref q32, .ref q34, .ref q36, .ref q38, .ref q39])), (q25, .inl (vC (mV M) 4, 6, .inr (.inr (.inr (.inr (fun _ => none)))))), (q26, .inl (vC (mV M) 0, (6, .inl (fun _ => 0)))), (q27, .inl (vC (mV M) 0, (6, .inl (fun _ => 0)))), (q28, .inl (vC (mV M) 0, (6, .inl (fun _ => 0)))), (q29, .inl (vC (mV M) 0, (6, .inl (fun _ => 0)))), (q30, .inl (vC (mV M) 0, (6, .inl (fun _ => 0)))), (q31, .inl (vC (mV M) 0, (24, .inl (fun _ => 0)))), (q32, .inr (5, [.ref q33, .int (0 : Int32)])), (q33, .inl (vC (mV M) 0, (18, .inl (fun _ => 0)))), (q34, .inr (5, [.ref q35, .int (0 : Int32)])), (q35, .inl (vC (mV M) 0, (10, .inl (fun _ => 0)))), (q36, .inr (5, [.ref q37, .int (0 : Int32)])), (q37, .inl (vC (mV M) 0, (8, .inl (fun _ => 0)))), (q38, .inl (vC (mV M) 0, (6, .inl (fun _ => 0)))), (q39, .inl (vC (mV M) 0, (6, .inl (fun _ => 0)))), (q45, .inr (1, [.ref q47, .int (0 : Int32), .ref q48, .int (0 : Int32), .ref q49, .ref q50, .ref q51, .ref q52, .ref q53, .int (0 : Int32), .null, .int (-1 : Int32), .ref q54, .ref q56, .ref q58, .ref q60, .ref q61])), (q47, .inl (vC (mV M) 4, 6, .inr (.inr (.inr (.inr (fun _ => none)))))), (q48, .inl (vC (mV M) 0, (6, .inl (fun _ => 0)))), (q49, .inl (vC (mV M) 0, (6, .inl (fun _ => 0)))), (q50, .inl (vC (mV M) 0, (6, .inl (fun _ => 0)))), (q51, .inl (vC (mV M) 0, (6, .inl (fun _ => 0)))), (q52, .inl (vC (mV M) 0, (6, .inl (fun _ => 0)))), (q53, .inl (vC (mV M) 0, (24, .inl (fun _ => 0)))), (q54, .inr (5, [.ref q55, .int (0 : Int32)])), (q55, .inl (vC (mV M) 0, (18, .inl (fun _ => 0)))), (q56, .inr (5, [.ref q57, .int (0 : Int32)])), (q57, .inl (vC (mV M) 0, (10, .inl (fun _ => 0)))), (q58, .inr (5, [.ref q59, .int (0 : Int32)])), (q59, .inl (vC (mV M) 0, (8, .inl (fun _ => 0)))), (q60, .inl (vC (mV M) 0, (6, .inl (fun _ => 0)))), (q61, .inl (vC (mV M) 0, (6, .inl (fun _ => 0)))), (q70, .inl (vC (mV M) 5, 6, .inr (.inr (.inr (.inr (fun _ => none)))))), (q80, .inl (vC (mV M) 1, (100, .inl (fun _ => 0)))), (q90, .inl (vC (mV M) 6, 6, .inr (.inr (.inr (.inr (fun _ => none)))))), (q97, .inr (5, [.ref q99, .int (0 : Int32)])), (q99, .inl (vC (mV M) 0, (20, .inl (fun _ => 0)))), (q105, .inl (vC (mV M) 0, (5, .inl (fun _ => 0)))), (q112, .inl (vC (mV M) 0, (5, .inl (fun _ => 0)))), (q119, .inl (vC (mV M) 0, (6, .inl (fun _ => 0)))), (q126, .inr (2, [.int (2 : Int32), .int (1 : Int32), .int (60 : Int32), .ref q128, .int (0 : Int32), .ref q129, .ref q130, .ref q131, .int (0 : Int32), .null, .int (0 : Int32), .int (0 : Int32)])), (q128, .inl (vC (mV M) 0, (100, .inl (fun _ => 0)))), (q129, .inl (vC (mV M) 0, (10, .inl (fun _ => 0)))), (q130, .inl (vC (mV M) 0, (10, .inl (fun _ => 0)))), (q131, .inl (vC (mV M) 0, (10, .inl (fun _ => 0))))] := bZ
  clear bZ b135
  have c139 := eZ.trans c136
  clear eZ
  refine Z_aload_n C dX11_init_137 1 rfl ?_
  refine Y_get C fa_X11_init_21 b138 c139 rfl dX11_init_138 ?_
  refine Z_aload_n C dX11_init_141 0 rfl ?_
  refine Y_putP (i := 32) C pa_X11_init_71 b138 rfl rfl rfl (Nat.le_of_ble_eq_true rfl) dX11_init_142 (fun ω140 bZ eZ => ?_)
  have b141 : BT ω0 ω140 h [(q1, .inr (1, [.ref q3, .int (0 : Int32), .ref q4, .int (0 : Int32), .ref q5, .ref q6, .ref q7, .ref q8, .ref q9, .int (0 : Int32), .ref q126, .int (-1 : Int32), .ref q10, .ref q12, .ref q14, .ref q16, .ref q17])), (q3, .inl (vC (mV M) 4, 6, .inr (.inr (.inr (.inr (fun _ => none)))))), (q4, .inl (vC (mV M) 0, (6, .inl (fun _ => 0)))), (q5, .inl (vC (mV M) 0, (6, .inl (fun _ => 0)))), (q6, .inl (vC (mV M) 0, (6, .inl (fun _ => 0)))), (q7, .inl (vC (mV M) 0, (6, .inl (fun _ => 0)))), (q8, .inl (vC (mV M) 0, (6, .inl (fun _ => 0)))), (q9, .inl (vC (mV M) 0, (24, .inl (fun _ => 0)))), (q10, .inr (5, [.ref q11, .int (0 : Int32)])), (q11, .inl (vC (mV M) 0, (18, .inl (fun _ => 0)))), (q12, .inr (5, [.ref q13, .int (0 : Int32)])), (q13, .inl (vC (mV M) 0, (10, .inl (fun _ => 0)))), (q14, .inr (5, [.ref q15, .int (0 : Int32)])), (q15, .inl (vC (mV M) 0, (8, .inl (fun _ => 0)))), (q16, .inl (vC (mV M) 0, (6, .inl (fun _ => 0)))), (q17, .inl (vC (mV M) 0, (6, .inl (fun _ => 0)))), (q23, .inr (1, [.ref q25, .int (0 : Int32), .ref q26, .int (0 : Int32), .ref q27, .ref q28, .ref q29, .ref q30, .ref q31, .int (0 : Int32), .ref q126, .int (-1 : Int32), .ref q32, .ref q34, .ref q36, .ref q38, .ref q39])), (q25, .inl (vC (mV M) 4, 6, .inr (.inr (.inr (.inr (fun _ => none)))))), (q26, .inl (vC (mV M) 0, (6, .inl (fun _ => 0)))), (q27, .inl (vC (mV M) 0, (6, .inl (fun _ => 0)))), (q28, .inl (vC (mV M) 0, (6, .inl (fun _ => 0)))), (q29, .inl (vC (mV M) 0, (6, .inl (fun _ => 0)))), (q30, .inl (vC (mV M) 0, (6, .inl (fun _ => 0)))), (q31, .inl (vC (mV M) 0, (24, .inl (fun _ => 0)))), (q32, .inr (5, [.ref q33, .int (0 : Int32)])), (q33, .inl (vC (mV M) 0, (18, .inl (fun _ => 0)))), (q34, .inr (5, [.ref q35, .int (0 : Int32)])), (q35, .inl (vC (mV M) 0, (10, .inl (fun _ => 0)))), (q36, .inr (5, [.ref q37, .int (0 : Int32)])), (q37, .inl (vC (mV M) 0, (8, .inl (fun _ => 0)))), (q38, .inl (vC (mV M) 0, (6, .inl (fun _ => 0)))), (q39, .inl (vC (mV M) 0, (6, .inl (fun _ => 0)))), (q45, .inr (1, [.ref q47, .int (0 : Int32), .ref q48, .int (0 : Int32), .ref q49, .ref q50, .ref q51, .ref q52, .ref q53, .int (0 : Int32), .ref q126, .int (-1 : Int32), .ref q54, .ref q56, .ref q58, .ref q60, .ref q61])), (q47, .inl (vC (mV M) 4, 6, .inr (.inr (.inr (.inr (fun _ => none)))))), (q48, .inl (vC (mV M) 0, (6, .inl (fun _ => 0)))), (q49, .inl (vC (mV M) 0, (6, .inl (fun _ => 0)))), (q50, .inl (vC (mV M) 0, (6, .inl (fun _ => 0)))), (q51, .inl (vC (mV M) 0, (6, .inl (fun _ => 0)))), (q52, .inl (vC (mV M) 0, (6, .inl (fun _ => 0)))), (q53, .inl (vC (mV M) 0, (24, .inl (fun _ => 0)))), (q54, .inr (5, [.ref q55, .int (0 : Int32)])), (q55, .inl (vC (mV M) 0, (18, .inl (fun _ => 0)))), (q56, .inr (5, [.ref q57, .int (0 : Int32)])), (q57, .inl (vC (mV M) 0, (10, .inl (fun _ => 0)))), (q58, .inr (5, [.ref q59, .int (0 : Int32)])), (q59, .inl (vC (mV M) 0, (8, .inl (fun _ => 0)))), (q60, .inl (vC (mV M) 0, (6, .inl (fun _ => 0)))), (q61, .inl (vC (mV M) 0, (6, .inl (fun _ => 0)))), (q70, .inl (vC (mV M) 5, 6, .inr (.inr (.inr (.inr (fun _ => none)))))), (q80, .inl (vC (mV M) 1, (100, .inl (fun _ => 0)))), (q90, .inl (vC (mV M) 6, 6, .inr (.inr (.inr (.inr (fun _ => none)))))), (q97, .inr (5, [.ref q99, .int (0 : Int32)])), (q99, .inl (vC (mV M) 0, (20, .inl (fun _ => 0)))), (q105, .inl (vC (mV M) 0, (5, .inl (fun _ => 0)))), (q112, .inl (vC (mV M) 0, (5, .inl (fun _ => 0)))), (q119, .inl (vC (mV M) 0, (6, .inl (fun _ => 0)))), (q126, .inr (2, [.int (2 : Int32), .int (1 : Int32), .int (60 : Int32), .ref q128, .int (0 : Int32), .ref q129, .ref q130, .ref q131, .int (0 : Int32), .null, .int (0 : Int32), .int (0 : Int32)])), (q128, .inl (vC (mV M) 0, (100, .inl (fun _ => 0)))), (q129, .inl (vC (mV M) 0, (10, .inl (fun _ => 0)))), (q130, .inl (vC (mV M) 0, (10, .inl (fun _ => 0)))), (q131, .inl (vC (mV M) 0, (10, .inl (fun _ => 0))))] := bZ
  clear bZ b138
  have c142 := eZ.trans c139
  clear eZ
  refine Z_iconst C dX11_init_145 (v := (0 : Int32)) (by decide +kernel) ?_
  refine Z_istore_n C dX11_init_146 (by rw [hN]; decide) rfl ?_
  refine Z_iload_n C dX11_init_147 0 rfl ?_
  refine Z_bipush C dX11_init_148 (v := (6 : Int32)) (by decide +kernel) ?_
  refine Z_icmp_ge C dX11_init_150 (tgt := 172) (by decide +kernel) (fun z => absurd z (by decide +kernel)) (fun _ => ?_)
  refine Z_aload_n C dX11_init_153 2 rfl ?_
  refine Y_get C fa_X11_init_47 b141 c142 rfl dX11_init_154 ?_
  refine Z_iload_n C dX11_init_157 0 rfl ?_
  refine Z_new (fs := [.null, .int 0, .int 0]) C hU (ci := 9) rfl (fun _ h => List.mem_cons_of_mem _ (List.mem_append_right _ h)) tyX9_ok (List.mem_of_getElem? (i := 17) rfl) (List.mem_of_getElem? (i := 30) rfl) (List.mem_of_getElem? (i := 31) rfl) dfX9 (Nat.le_of_ble_eq_true rfl) (Nat.le_of_ble_eq_true rfl) dX11_init_158 (fun q143 hq143 => ?_)
  show PR M 161 [(2, .int (0 : Int32)), (1, .ref q126), (0, .ref h)] [.ref q143, .int (0 : Int32), .ref q90] (rnew ω140 q143 (.inr (9, [.null, .int 0, .int 0]))) (62, 688)
  refine Z_dup C dX11_init_161 rfl ?_
  refine Z_ciN (rc0 := (rmr 1 1 (60))) (Qk := TB (mV M) (rnew ω140 q143 (.inr (9, [.null, .int 0, .int 0]))) q143) (b := q143) (As := []) C ki_X11_init_X9_init_75 (fun h9 => h9.2.2) hNW rfl (Nat.le_of_ble_eq_true rfl) dX11_init_162 ⟨Nat.le_of_ble_eq_true rfl, Nat.le_of_ble_eq_true rfl⟩ (k_X9_init hU (List.mem_append_right _ (List.mem_singleton.mpr rfl)) (va_up_self _ _ _) ) (fun ω144 bZ => ?_)
  obtain ⟨q145, bZ, cZ⟩ := bZ
  obtain ⟨bZ, eZ⟩ := BT_call b141 hq143 bZ cZ
  have b146 := bZ
  clear bZ b141
  have c147 := eZ.trans c142
  clear cZ eZ
  show PR M 165 [(2, .int (0 : Int32)), (1, .ref q126), (0, .ref h)] [.ref q143, .int (0 : Int32), .ref q90] ω144 (63, 748)
  refine Y_aast (k := 50) (k2 := 61) C b146 rfl rfl rfl rfl (vp_in_iff.mpr ⟨by decide +kernel, by decide +kernel⟩) dX11_init_165 (fun ω148 bZ eZ => ?_)
  have b149 : BT ω0 ω148 h [(q1, .inr (1, [.ref q3, .int (0 : Int32), .ref q4, .int (0 : Int32), .ref q5, .ref q6, .ref q7, .ref q8, .ref q9, .int (0 : Int32), .ref q126, .int (-1 : Int32), .ref q10, .ref q12, .ref q14, .ref q16, .ref q17])), (q3, .inl (vC (mV M) 4, 6, .inr (.inr (.inr (.inr (fun _ => none)))))), (q4, .inl (vC (mV M) 0, (6, .inl (fun _ => 0)))), (q5, .inl (vC (mV M) 0, (6, .inl (fun _ => 0)))), (q6, .inl (vC (mV M) 0, (6, .inl (fun _ => 0)))), (q7, .inl (vC (mV M) 0, (6, .inl (fun _ => 0)))), (q8, .inl (vC (mV M) 0, (6, .inl (fun _ => 0)))), (q9, .inl (vC (mV M) 0, (24, .inl (fun _ => 0)))), (q10, .inr (5, [.ref q11, .int (0 : Int32)])), (q11, .inl (vC (mV M) 0, (18, .inl (fun _ => 0)))), (q12, .inr (5, [.ref q13, .int (0 : Int32)])), (q13, .inl (vC (mV M) 0, (10, .inl (fun _ => 0)))), (q14, .inr (5, [.ref q15, .int (0 : Int32)])), (q15, .inl (vC (mV M) 0, (8, .inl (fun _ => 0)))), (q16, .inl (vC (mV M) 0, (6, .inl (fun _ => 0)))), (q17, .inl (vC (mV M) 0, (6, .inl (fun _ => 0)))), (q23, .inr (1, [.ref q25, .int (0 : Int32), .ref q26, .int (0 : Int32), .ref q27, .ref q28, .ref q29, .ref q30, .ref q31, .int (0 : Int32), .ref q126, .int (-1 : Int32), .ref q32, .ref q34, .ref q36, .ref q38, .ref q39])), (q25, .inl (vC (mV M) 4, 6, .inr (.inr (.inr (.inr (fun _ => none)))))), (q26, .inl (vC (mV M) 0, (6, .inl (fun _ => 0)))), (q27, .inl (vC (mV M) 0, (6, .inl (fun _ => 0)))), (q28, .inl (vC (mV M) 0, (6, .inl (fun _ => 0)))), (q29, .inl (vC (mV M) 0, (6, .inl (fun _ => 0)))), (q30, .inl (vC (mV M) 0, (6, .inl (fun _ => 0)))), (q31, .inl (vC (mV M) 0, (24, .inl (fun _ => 0)))), (q32, .inr (5, [.ref q33, .int (0 : Int32)])), (q33, .inl (vC (mV M) 0, (18, .inl (fun _ => 0)))), (q34, .inr (5, [.ref q35, .int (0 : Int32)])), (q35, .inl (vC (mV M) 0, (10, .inl (fun _ => 0)))), (q36, .inr (5, [.ref q37, .int (0 : Int32)])), (q37, .inl (vC (mV M) 0, (8, .inl (fun _ => 0)))), (q38, .inl (vC (mV M) 0, (6, .inl (fun _ => 0)))), (q39, .inl (vC (mV M) 0, (6, .inl (fun _ => 0)))), (q45, .inr (1, [.ref q47, .int (0 : Int32), .ref q48, .int (0 : Int32), .ref q49, .ref q50, .ref q51, .ref q52, .ref q53, .int (0 : Int32), .ref q126, .int (-1 : Int32), .ref q54, .ref q56, .ref q58, .ref q60, .ref q61])), (q47, .inl (vC (mV M) 4, 6, .inr (.inr (.inr (.inr (fun _ => none)))))), (q48, .inl (vC (mV M) 0, (6, .inl (fun _ => 0)))), (q49, .inl (vC (mV M) 0, (6, .inl (fun _ => 0)))), (q50, .inl (vC (mV M) 0, (6, .inl (fun _ => 0)))), (q51, .inl (vC (mV M) 0, (6, .inl (fun _ => 0)))), (q52, .inl (vC (mV M) 0, (6, .inl (fun _ => 0)))), (q53, .inl (vC (mV M) 0, (24, .inl (fun _ => 0)))), (q54, .inr (5, [.ref q55, .int (0 : Int32)])), (q55, .inl (vC (mV M) 0, (18, .inl (fun _ => 0)))), (q56, .inr (5, [.ref q57, .int (0 : Int32)])), (q57, .inl (vC (mV M) 0, (10, .inl (fun _ => 0)))), (q58, .inr (5, [.ref q59, .int (0 : Int32)])), (q59, .inl (vC (mV M) 0, (8, .inl (fun _ => 0)))), (q60, .inl (vC (mV M) 0, (6, .inl (fun _ => 0)))), (q61, .inl (vC (mV M) 0, (6, .inl (fun _ => 0)))), (q70, .inl (vC (mV M) 5, 6, .inr (.inr (.inr (.inr (fun _ => none)))))), (q80, .inl (vC (mV M) 1, (100, .inl (fun _ => 0)))), (q90, .inl (vC (mV M) 6, 6, .inr (.inr (.inr (.inr (va_up (fun _ => none) 0 (some q143))))))), (q97, .inr (5, [.ref q99, .int (0 : Int32)])), (q99, .inl (vC (mV M) 0, (20, .inl (fun _ => 0)))), (q105, .inl (vC (mV M) 0, (5, .inl (fun _ => 0)))), (q112, .inl (vC (mV M) 0, (5, .inl (fun _ => 0)))), (q119, .inl (vC (mV M) 0, (6, .inl (fun _ => 0)))), (q126, .inr (2, [.int (2 : Int32), .int (1 : Int32), .int (60 : Int32), .ref q128, .int (0 : Int32), .ref q129, .ref q130, .ref q131, .int (0 : Int32), .null, .int (0 : Int32), .int (0 : Int32)])), (q128, .inl (vC (mV M) 0, (100, .inl (fun _ => 0)))), (q129, .inl (vC (mV M) 0, (10, .inl (fun _ => 0)))), (q130, .inl (vC (mV M) 0, (10, .inl (fun _ => 0)))), (q131, .inl (vC (mV M) 0, (10, .inl (fun _ => 0)))), (q143, .inr (9, [.ref q145, .int (-1 : Int32), .int (0 : Int32)])), (q145, .inl (vC (mV M) 3, (60, .inr (.inl (fun _ => 0)))))] := bZ
  clear bZ b146
  have c150 := eZ.trans c147
  clear eZ
  refine Z_iinc (v := (1 : Int32)) C dX11_init_166 0 rfl (by decide +kernel) (by rw [hN]; decide) rfl ?_
  refine Z_goto C dX11_init_169 (tgt := 147) (by decide +kernel) ?_
  refine Z_iload_n C dX11_init_147 0 rfl ?_
  refine Z_bipush C dX11_init_148 (v := (6 : Int32)) (by decide +kernel) ?_
  refine Z_icmp_ge C dX11_init_150 (tgt := 172) (by decide +kernel) (fun z => absurd z (by decide +kernel)) (fun _ => ?_)
  refine Z_aload_n C dX11_init_153 2 rfl ?_
  refine Y_get C fa_X11_init_47 b149 c150 rfl dX11_init_154 ?_
  refine Z_iload_n C dX11_init_157 0 rfl ?_
  refine Z_new (fs := [.null, .int 0, .int 0]) C hU (ci := 9) rfl (fun _ h => List.mem_cons_of_mem _ (List.mem_append_right _ h)) tyX9_ok (List.mem_of_getElem? (i := 17) rfl) (List.mem_of_getElem? (i := 30) rfl) (List.mem_of_getElem? (i := 31) rfl) dfX9 (Nat.le_of_ble_eq_true rfl) (Nat.le_of_ble_eq_true rfl) dX11_init_158 (fun q151 hq151 => ?_)
  show PR M 161 [(2, .int (1 : Int32)), (1, .ref q126), (0, .ref h)] [.ref q151, .int (1 : Int32), .ref q90] (rnew ω148 q151 (.inr (9, [.null, .int 0, .int 0]))) (64, 751)
  refine Z_dup C dX11_init_161 rfl ?_
  refine Z_ciN (rc0 := (rmr 1 1 (60))) (Qk := TB (mV M) (rnew ω148 q151 (.inr (9, [.null, .int 0, .int 0]))) q151) (b := q151) (As := []) C ki_X11_init_X9_init_75 (fun h9 => h9.2.2) hNW rfl (Nat.le_of_ble_eq_true rfl) dX11_init_162 ⟨Nat.le_of_ble_eq_true rfl, Nat.le_of_ble_eq_true rfl⟩ (k_X9_init hU (List.mem_append_right _ (List.mem_singleton.mpr rfl)) (va_up_self _ _ _) ) (fun ω152 bZ => ?_)
  obtain ⟨q153, bZ, cZ⟩ := bZ
  obtain ⟨bZ, eZ⟩ := BT_call b149 hq151 bZ cZ
  have b154 := bZ
  clear bZ b149
  have c155 := eZ.trans c150
  clear cZ eZ
  show PR M 165 [(2, .int (1 : Int32)), (1, .ref q126), (0, .ref h)] [.ref q151, .int (1 : Int32), .ref q90] ω152 (65, 811)
  refine Y_aast (k := 50) (k2 := 63) C b154 rfl rfl rfl rfl (vp_in_iff.mpr ⟨by decide +kernel, by decide +kernel⟩) dX11_init_165 (fun ω156 bZ eZ => ?_)
  have b157 : BT ω0 ω156 h [(q1, .inr (1, [.ref q3, .int (0 : Int32), .ref q4, .int (0 : Int32), .ref q5, .ref q6, .ref q7, .ref q8, .ref q9, .int (0 : Int32), .ref q126, .int (-1 : Int32), .ref q10, .ref q12, .ref q14, .ref q16, .ref q17])), (q3, .inl (vC (mV M) 4, 6, .inr (.inr (.inr (.inr (fun _ => none)))))), (q4, .inl (vC (mV M) 0, (6, .inl (fun _ => 0)))), (q5, .inl (vC (mV M) 0, (6, .inl (fun _ => 0)))), (q6, .inl (vC (mV M) 0, (6, .inl (fun _ => 0)))), (q7, .inl (vC (mV M) 0, (6, .inl (fun _ => 0)))), (q8, .inl (vC (mV M) 0, (6, .inl (fun _ => 0)))), (q9, .inl (vC (mV M) 0, (24, .inl (fun _ => 0)))), (q10, .inr (5, [.ref q11, .int (0 : Int32)])), (q11, .inl (vC (mV M) 0, (18, .inl (fun _ => 0)))), (q12, .inr (5, [.ref q13, .int (0 : Int32)])), (q13, .inl (vC (mV M) 0, (10, .inl (fun _ => 0)))), (q14, .inr (5, [.ref q15, .int (0 : Int32)])), (q15, .inl (vC (mV M) 0, (8, .inl (fun _ => 0)))), (q16, .inl (vC (mV M) 0, (6, .inl (fun _ => 0)))), (q17, .inl (vC (mV M) 0, (6, .inl (fun _ => 0)))), (q23, .inr (1, [.ref q25, .int (0 : Int32), .ref q26, .int (0 : Int32), .ref q27, .ref q28, .ref q29, .ref q30, .ref q31, .int (0 : Int32), .ref q126, .int (-1 : Int32), .ref q32, .ref q34, .ref q36, .ref q38, .ref q39])), (q25, .inl (vC (mV M) 4, 6, .inr (.inr (.inr (.inr (fun _ => none)))))), (q26, .inl (vC (mV M) 0, (6, .inl (fun _ => 0)))), (q27, .inl (vC (mV M) 0, (6, .inl (fun _ => 0)))), (q28, .inl (vC (mV M) 0, (6, .inl (fun _ => 0)))), (q29, .inl (vC (mV M) 0, (6, .inl (fun _ => 0)))), (q30, .inl (vC (mV M) 0, (6, .inl (fun _ => 0)))), (q31, .inl (vC (mV M) 0, (24, .inl (fun _ => 0)))), (q32, .inr (5, [.ref q33, .int (0 : Int32)])), (q33, .inl (vC (mV M) 0, (18, .inl (fun _ => 0)))), (q34, .inr (5, [.ref q35, .int (0 : Int32)])), (q35, .inl (vC (mV M) 0, (10, .inl (fun _ => 0)))), (q36, .inr (5, [.ref q37, .int (0 : Int32)])), (q37, .inl (vC (mV M) 0, (8, .inl (fun _ => 0)))), (q38, .inl (vC (mV M) 0, (6, .inl (fun _ => 0)))), (q39, .inl (vC (mV M) 0, (6, .inl (fun _ => 0)))), (q45, .inr (1, [.ref q47, .int (0 : Int32), .ref q48, .int (0 : Int32), .ref q49, .ref q50, .ref q51, .ref q52, .ref q53, .int (0 : Int32), .ref q126, .int (-1 : Int32), .ref q54, .ref q56, .ref q58, .ref q60, .ref q61])), (q47, .inl (vC (mV M) 4, 6, .inr (.inr (.inr (.inr (fun _ => none)))))), (q48, .inl (vC (mV M) 0, (6, .inl (fun _ => 0)))), (q49, .inl (vC (mV M) 0, (6, .inl (fun _ => 0)))), (q50, .inl (vC (mV M) 0, (6, .inl (fun _ => 0)))), (q51, .inl (vC (mV M) 0, (6, .inl (fun _ => 0)))), (q52, .inl (vC (mV M) 0, (6, .inl (fun _ => 0)))), (q53, .inl (vC (mV M) 0, (24, .inl (fun _ => 0)))), (q54, .inr (5, [.ref q55, .int (0 : Int32)])), (q55, .inl (vC (mV M) 0, (18, .inl (fun _ => 0)))), (q56, .inr (5, [.ref q57, .int (0 : Int32)])), (q57, .inl (vC (mV M) 0, (10, .inl (fun _ => 0)))), (q58, .inr (5, [.ref q59, .int (0 : Int32)])), (q59, .inl (vC (mV M) 0, (8, .inl (fun _ => 0)))), (q60, .inl (vC (mV M) 0, (6, .inl (fun _ => 0)))), (q61, .inl (vC (mV M) 0, (6, .inl (fun _ => 0)))), (q70, .inl (vC (mV M) 5, 6, .inr (.inr (.inr (.inr (fun _ => none)))))), (q80, .inl (vC (mV M) 1, (100, .inl (fun _ => 0)))), (q90, .inl (vC (mV M) 6, 6, .inr (.inr (.inr (.inr (va_up (va_up (fun _ => none) 0 (some q143)) 1 (some q151))))))), (q97, .inr (5, [.ref q99, .int (0 : Int32)])), (q99, .inl (vC (mV M) 0, (20, .inl (fun _ => 0)))), (q105, .inl (vC (mV M) 0, (5, .inl (fun _ => 0)))), (q112, .inl (vC (mV M) 0, (5, .inl (fun _ => 0)))), (q119, .inl (vC (mV M) 0, (6, .inl (fun _ => 0)))), (q126, .inr (2, [.int (2 : Int32), .int (1 : Int32), .int (60 : Int32), .ref q128, .int (0 : Int32), .ref q129, .ref q130, .ref q131, .int (0 : Int32), .null, .int (0 : Int32), .int (0 : Int32)])), (q128, .inl (vC (mV M) 0, (100, .inl (fun _ => 0)))), (q129, .inl (vC (mV M) 0, (10, .inl (fun _ => 0)))), (q130, .inl (vC (mV M) 0, (10, .inl (fun _ => 0)))), (q131, .inl (vC (mV M) 0, (10, .inl (fun _ => 0)))), (q143, .inr (9, [.ref q145, .int (-1 : Int32), .int (0 : Int32)])), (q145, .inl (vC (mV M) 3, (60, .inr (.inl (fun _ => 0))))), (q151, .inr (9, [.ref q153, .int (-1 : Int32), .int (0 : Int32)])), (q153, .inl (vC (mV M) 3, (60, .inr (.inl (fun _ => 0)))))] := bZ
  clear bZ b154
  have c158 := eZ.trans c155
  clear eZ
  refine Z_iinc (v := (2 : Int32)) C dX11_init_166 0 rfl (by decide +kernel) (by rw [hN]; decide) rfl ?_
  refine Z_goto C dX11_init_169 (tgt := 147) (by decide +kernel) ?_
  refine Z_iload_n C dX11_init_147 0 rfl ?_
  refine Z_bipush C dX11_init_148 (v := (6 : Int32)) (by decide +kernel) ?_
  refine Z_icmp_ge C dX11_init_150 (tgt := 172) (by decide +kernel) (fun z => absurd z (by decide +kernel)) (fun _ => ?_)
  refine Z_aload_n C dX11_init_153 2 rfl ?_
  refine Y_get C fa_X11_init_47 b157 c158 rfl dX11_init_154 ?_
  refine Z_iload_n C dX11_init_157 0 rfl ?_
  refine Z_new (fs := [.null, .int 0, .int 0]) C hU (ci := 9) rfl (fun _ h => List.mem_cons_of_mem _ (List.mem_append_right _ h)) tyX9_ok (List.mem_of_getElem? (i := 17) rfl) (List.mem_of_getElem? (i := 30) rfl) (List.mem_of_getElem? (i := 31) rfl) dfX9 (Nat.le_of_ble_eq_true rfl) (Nat.le_of_ble_eq_true rfl) dX11_init_158 (fun q159 hq159 => ?_)
  show PR M 161 [(2, .int (2 : Int32)), (1, .ref q126), (0, .ref h)] [.ref q159, .int (2 : Int32), .ref q90] (rnew ω156 q159 (.inr (9, [.null, .int 0, .int 0]))) (66, 814)
  refine Z_dup C dX11_init_161 rfl ?_
  refine Z_ciN (rc0 := (rmr 1 1 (60))) (Qk := TB (mV M) (rnew ω156 q159 (.inr (9, [.null, .int 0, .int 0]))) q159) (b := q159) (As := []) C ki_X11_init_X9_init_75 (fun h9 => h9.2.2) hNW rfl (Nat.le_of_ble_eq_true rfl) dX11_init_162 ⟨Nat.le_of_ble_eq_true rfl, Nat.le_of_ble_eq_true rfl⟩ (k_X9_init hU (List.mem_append_right _ (List.mem_singleton.mpr rfl)) (va_up_self _ _ _) ) (fun ω160 bZ => ?_)
  obtain ⟨q161, bZ, cZ⟩ := bZ
  obtain ⟨bZ, eZ⟩ := BT_call b157 hq159 bZ cZ
  have b162 := bZ
  clear bZ b157
  have c163 := eZ.trans c158
  clear cZ eZ
  show PR M 165 [(2, .int (2 : Int32)), (1, .ref q126), (0, .ref h)] [.ref q159, .int (2 : Int32), .ref q90] ω160 (67, 874)
  refine Y_aast (k := 50) (k2 := 65) C b162 rfl rfl rfl rfl (vp_in_iff.mpr ⟨by decide +kernel, by decide +kernel⟩) dX11_init_165 (fun ω164 bZ eZ => ?_)
  have b165 : BT ω0 ω164 h [(q1, .inr (1, [.ref q3, .int (0 : Int32), .ref q4, .int (0 : Int32), .ref q5, .ref q6, .ref q7, .ref q8, .ref q9, .int (0 : Int32), .ref q126, .int (-1 : Int32), .ref q10, .ref q12, .ref q14, .ref q16, .ref q17])), (q3, .inl (vC (mV M) 4, 6, .inr (.inr (.inr (.inr (fun _ => none)))))), (q4, .inl (vC (mV M) 0, (6, .inl (fun _ => 0)))), (q5, .inl (vC (mV M) 0, (6, .inl (fun _ => 0)))), (q6, .inl (vC (mV M) 0, (6, .inl (fun _ => 0)))), (q7, .inl (vC (mV M) 0, (6, .inl (fun _ => 0)))), (q8, .inl (vC (mV M) 0, (6, .inl (fun _ => 0)))), (q9, .inl (vC (mV M) 0, (24, .inl (fun _ => 0)))), (q10, .inr (5, [.ref q11, .int (0 : Int32)])), (q11, .inl (vC (mV M) 0, (18, .inl (fun _ => 0)))), (q12, .inr (5, [.ref q13, .int (0 : Int32)])), (q13, .inl (vC (mV M) 0, (10, .inl (fun _ => 0)))), (q14, .inr (5, [.ref q15, .int (0 : Int32)])), (q15, .inl (vC (mV M) 0, (8, .inl (fun _ => 0)))), (q16, .inl (vC (mV M) 0, (6, .inl (fun _ => 0)))), (q17, .inl (vC (mV M) 0, (6, .inl (fun _ => 0)))), (q23, .inr (1, [.ref q25, .int (0 : Int32), .ref q26, .int (0 : Int32), .ref q27, .ref q28, .ref q29, .ref q30, .ref q31, .int (0 : Int32), .ref q126, .int (-1 : Int32), .ref q32, .ref q34, .ref q36, .ref q38, .ref q39])), (q25, .inl (vC (mV M) 4, 6, .inr (.inr (.inr (.inr (fun _ => none)))))), (q26, .inl (vC (mV M) 0, (6, .inl (fun _ => 0)))), (q27, .inl (vC (mV M) 0, (6, .inl (fun _ => 0)))), (q28, .inl (vC (mV M) 0, (6, .inl (fun _ => 0)))), (q29, .inl (vC (mV M) 0, (6, .inl (fun _ => 0)))), (q30, .inl (vC (mV M) 0, (6, .inl (fun _ => 0)))), (q31, .inl (vC (mV M) 0, (24, .inl (fun _ => 0)))), (q32, .inr (5, [.ref q33, .int (0 : Int32)])), (q33, .inl (vC (mV M) 0, (18, .inl (fun _ => 0)))), (q34, .inr (5, [.ref q35, .int (0 : Int32)])), (q35, .inl (vC (mV M) 0, (10, .inl (fun _ => 0)))), (q36, .inr (5, [.ref q37, .int (0 : Int32)])), (q37, .inl (vC (mV M) 0, (8, .inl (fun _ => 0)))), (q38, .inl (vC (mV M) 0, (6, .inl (fun _ => 0)))), (q39, .inl (vC (mV M) 0, (6, .inl (fun _ => 0)))), (q45, .inr (1, [.ref q47, .int (0 : Int32), .ref q48, .int (0 : Int32), .ref q49, .ref q50, .ref q51, .ref q52, .ref q53, .int (0 : Int32), .ref q126, .int (-1 : Int32), .ref q54, .ref q56, .ref q58, .ref q60, .ref q61])), (q47, .inl (vC (mV M) 4, 6, .inr (.inr (.inr (.inr (fun _ => none)))))), (q48, .inl (vC (mV M) 0, (6, .inl (fun _ => 0)))), (q49, .inl (vC (mV M) 0, (6, .inl (fun _ => 0)))), (q50, .inl (vC (mV M) 0, (6, .inl (fun _ => 0)))), (q51, .inl (vC (mV M) 0, (6, .inl (fun _ => 0)))), (q52, .inl (vC (mV M) 0, (6, .inl (fun _ => 0)))), (q53, .inl (vC (mV M) 0, (24, .inl (fun _ => 0)))), (q54, .inr (5, [.ref q55, .int (0 : Int32)])), (q55, .inl (vC (mV M) 0, (18, .inl (fun _ => 0)))), (q56, .inr (5, [.ref q57, .int (0 : Int32)])), (q57, .inl (vC (mV M) 0, (10, .inl (fun _ => 0)))), (q58, .inr (5, [.ref q59, .int (0 : Int32)])), (q59, .inl (vC (mV M) 0, (8, .inl (fun _ => 0)))), (q60, .inl (vC (mV M) 0, (6, .inl (fun _ => 0)))), (q61, .inl (vC (mV M) 0, (6, .inl (fun _ => 0)))), (q70, .inl (vC (mV M) 5, 6, .inr (.inr (.inr (.inr (fun _ => none)))))), (q80, .inl (vC (mV M) 1, (100, .inl (fun _ => 0)))), (q90, .inl (vC (mV M) 6, 6, .inr (.inr (.inr (.inr (va_up (va_up (va_up (fun _ => none) 0 (some q143)) 1 (some q151)) 2 (some q159))))))), (q97, .inr (5, [.ref q99, .int (0 : Int32)])), (q99, .inl (vC (mV M) 0, (20, .inl (fun _ => 0)))), (q105, .inl (vC (mV M) 0, (5, .inl (fun _ => 0)))), (q112, .inl (vC (mV M) 0, (5, .inl (fun _ => 0)))), (q119, .inl (vC (mV M) 0, (6, .inl (fun _ => 0)))), (q126, .inr (2, [.int (2 : Int32), .int (1 : Int32), .int (60 : Int32), .ref q128, .int (0 : Int32), .ref q129, .ref q130, .ref q131, .int (0 : Int32), .null, .int (0 : Int32), .int (0 : Int32)])), (q128, .inl (vC (mV M) 0, (100, .inl (fun _ => 0)))), (q129, .inl (vC (mV M) 0, (10, .inl (fun _ => 0)))), (q130, .inl (vC (mV M) 0, (10, .inl (fun _ => 0)))), (q131, .inl (vC (mV M) 0, (10, .inl (fun _ => 0)))), (q143, .inr (9, [.ref q145, .int (-1 : Int32), .int (0 : Int32)])), (q145, .inl (vC (mV M) 3, (60, .inr (.inl (fun _ => 0))))), (q151, .inr (9, [.ref q153, .int (-1 : Int32), .int (0 : Int32)])), (q153, .inl (vC (mV M) 3, (60, .inr (.inl (fun _ => 0))))), (q159, .inr (9, [.ref q161, .int (-1 : Int32), .int (0 : Int32)])), (q161, .inl (vC (mV M) 3, (60, .inr (.inl (fun _ => 0)))))] := bZ
  clear bZ b162
  have c166 := eZ.trans c163
  clear eZ
  refine Z_iinc (v := (3 : Int32)) C dX11_init_166 0 rfl (by decide +kernel) (by rw [hN]; decide) rfl ?_
  refine Z_goto C dX11_init_169 (tgt := 147) (by decide +kernel) ?_
  refine Z_iload_n C dX11_init_147 0 rfl ?_
  refine Z_bipush C dX11_init_148 (v := (6 : Int32)) (by decide +kernel) ?_
  refine Z_icmp_ge C dX11_init_150 (tgt := 172) (by decide +kernel) (fun z => absurd z (by decide +kernel)) (fun _ => ?_)
  refine Z_aload_n C dX11_init_153 2 rfl ?_
  refine Y_get C fa_X11_init_47 b165 c166 rfl dX11_init_154 ?_
  refine Z_iload_n C dX11_init_157 0 rfl ?_
  refine Z_new (fs := [.null, .int 0, .int 0]) C hU (ci := 9) rfl (fun _ h => List.mem_cons_of_mem _ (List.mem_append_right _ h)) tyX9_ok (List.mem_of_getElem? (i := 17) rfl) (List.mem_of_getElem? (i := 30) rfl) (List.mem_of_getElem? (i := 31) rfl) dfX9 (Nat.le_of_ble_eq_true rfl) (Nat.le_of_ble_eq_true rfl) dX11_init_158 (fun q167 hq167 => ?_)
  show PR M 161 [(2, .int (3 : Int32)), (1, .ref q126), (0, .ref h)] [.ref q167, .int (3 : Int32), .ref q90] (rnew ω164 q167 (.inr (9, [.null, .int 0, .int 0]))) (68, 877)
  refine Z_dup C dX11_init_161 rfl ?_
  refine Z_ciN (rc0 := (rmr 1 1 (60))) (Qk := TB (mV M) (rnew ω164 q167 (.inr (9, [.null, .int 0, .int 0]))) q167) (b := q167) (As := []) C ki_X11_init_X9_init_75 (fun h9 => h9.2.2) hNW rfl (Nat.le_of_ble_eq_true rfl) dX11_init_162 ⟨Nat.le_of_ble_eq_true rfl, Nat.le_of_ble_eq_true rfl⟩ (k_X9_init hU (List.mem_append_right _ (List.mem_singleton.mpr rfl)) (va_up_self _ _ _) ) (fun ω168 bZ => ?_)
  obtain ⟨q169, bZ, cZ⟩ := bZ
  obtain ⟨bZ, eZ⟩ := BT_call b165 hq167 bZ cZ
  have b170 := bZ
  clear bZ b165
  have c171 := eZ.trans c166
  clear cZ eZ
  show PR M 165 [(2, .int (3 : Int32)), (1, .ref q126), (0, .ref h)] [.ref q167, .int (3 : Int32), .ref q90] ω168 (69, 937)
  refine Y_aast (k := 50) (k2 := 67) C b170 rfl rfl rfl rfl (vp_in_iff.mpr ⟨by decide +kernel, by decide +kernel⟩) dX11_init_165 (fun ω172 bZ eZ => ?_)
  have b173 : BT ω0 ω172 h [(q1, .inr (1, [.ref q3, .int (0 : Int32), .ref q4, .int (0 : Int32), .ref q5, .ref q6, .ref q7, .ref q8, .ref q9, .int (0 : Int32), .ref q126, .int (-1 : Int32), .ref q10, .ref q12, .ref q14, .ref q16, .ref q17])), (q3, .inl (vC (mV M) 4, 6, .inr (.inr (.inr (.inr (fun _ => none)))))), (q4, .inl (vC (mV M) 0, (6, .inl (fun _ => 0)))), (q5, .inl (vC (mV M) 0, (6, .inl (fun _ => 0)))), (q6, .inl (vC (mV M) 0, (6, .inl (fun _ => 0)))), (q7, .inl (vC (mV M) 0, (6, .inl (fun _ => 0)))), (q8, .inl (vC (mV M) 0, (6, .inl (fun _ => 0)))), (q9, .inl (vC (mV M) 0, (24, .inl (fun _ => 0)))), (q10, .inr (5, [.ref q11, .int (0 : Int32)])), (q11, .inl (vC (mV M) 0, (18, .inl (fun _ => 0)))), (q12, .inr (5, [.ref q13, .int (0 : Int32)])), (q13, .inl (vC (mV M) 0, (10, .inl (fun _ => 0)))), (q14, .inr (5, [.ref q15, .int (0 : Int32)])), (q15, .inl (vC (mV M) 0, (8, .inl (fun _ => 0)))), (q16, .inl (vC (mV M) 0, (6, .inl (fun _ => 0)))), (q17, .inl (vC (mV M) 0, (6, .inl (fun _ => 0)))), (q23, .inr (1, [.ref q25, .int (0 : Int32), .ref q26, .int (0 : Int32), .ref q27, .ref q28, .ref q29, .ref q30, .ref q31, .int (0 : Int32), .ref q126, .int (-1 : Int32), .ref q32, .ref q34, .ref q36, .ref q38, .ref q39])), (q25, .inl (vC (mV M) 4, 6, .inr (.inr (.inr (.inr (fun _ => none)))))), (q26, .inl (vC (mV M) 0, (6, .inl (fun _ => 0)))), (q27, .inl (vC (mV M) 0, (6, .inl (fun _ => 0)))), (q28, .inl (vC (mV M) 0, (6, .inl (fun _ => 0)))), (q29, .inl (vC (mV M) 0, (6, .inl (fun _ => 0)))), (q30, .inl (vC (mV M) 0, (6, .inl (fun _ => 0)))), (q31, .inl (vC (mV M) 0, (24, .inl (fun _ => 0)))), (q32, .inr (5, [.ref q33, .int (0 : Int32)])), (q33, .inl (vC (mV M) 0, (18, .inl (fun _ => 0)))), (q34, .inr (5, [.ref q35, .int (0 : Int32)])), (q35, .inl (vC (mV M) 0, (10, .inl (fun _ => 0)))), (q36, .inr (5, [.ref q37, .int (0 : Int32)])), (q37, .inl (vC (mV M) 0, (8, .inl (fun _ => 0)))), (q38, .inl (vC (mV M) 0, (6, .inl (fun _ => 0)))), (q39, .inl (vC (mV M) 0, (6, .inl (fun _ => 0)))), (q45, .inr (1, [.ref q47, .int (0 : Int32), .ref q48, .int (0 : Int32), .ref q49, .ref q50, .ref q51, .ref q52, .ref q53, .int (0 : Int32), .ref q126, .int (-1 : Int32), .ref q54, .ref q56, .ref q58, .ref q60, .ref q61])), (q47, .inl (vC (mV M) 4, 6, .inr (.inr (.inr (.inr (fun _ => none)))))), (q48, .inl (vC (mV M) 0, (6, .inl (fun _ => 0)))), (q49, .inl (vC (mV M) 0, (6, .inl (fun _ => 0)))), (q50, .inl (vC (mV M) 0, (6, .inl (fun _ => 0)))), (q51, .inl (vC (mV M) 0, (6, .inl (fun _ => 0)))), (q52, .inl (vC (mV M) 0, (6, .inl (fun _ => 0)))), (q53, .inl (vC (mV M) 0, (24, .inl (fun _ => 0)))), (q54, .inr (5, [.ref q55, .int (0 : Int32)])), (q55, .inl (vC (mV M) 0, (18, .inl (fun _ => 0)))), (q56, .inr (5, [.ref q57, .int (0 : Int32)])), (q57, .inl (vC (mV M) 0, (10, .inl (fun _ => 0)))), (q58, .inr (5, [.ref q59, .int (0 : Int32)])), (q59, .inl (vC (mV M) 0, (8, .inl (fun _ => 0)))), (q60, .inl (vC (mV M) 0, (6, .inl (fun _ => 0)))), (q61, .inl (vC (mV M) 0, (6, .inl (fun _ => 0)))), (q70, .inl (vC (mV M) 5, 6, .inr (.inr (.inr (.inr (fun _ => none)))))), (q80, .inl (vC (mV M) 1, (100, .inl (fun _ => 0)))), (q90, .inl (vC (mV M) 6, 6, .inr (.inr (.inr (.inr (va_up (va_up (va_up (va_up (fun _ => none) 0 (some q143)) 1 (some q151)) 2 (some q159)) 3 (some q167))))))), (q97, .inr (5, [.ref q99, .int (0 : Int32)])), (q99, .inl (vC (mV M) 0, (20, .inl (fun _ => 0)))), (q105, .inl (vC (mV M) 0, (5, .inl (fun _ => 0)))), (q112, .inl (vC (mV M) 0, (5, .inl (fun _ => 0)))), (q119, .inl (vC (mV M) 0, (6, .inl (fun _ => 0)))), (q126, .inr (2, [.int (2 : Int32), .int (1 : Int32), .int (60 : Int32), .ref q128, .int (0 : Int32), .ref q129, .ref q130, .ref q131, .int (0 : Int32), .null, .int (0 : Int32), .int (0 : Int32)])), (q128, .inl (vC (mV M) 0, (100, .inl (fun _ => 0)))), (q129, .inl (vC (mV M) 0, (10, .inl (fun _ => 0)))), (q130, .inl (vC (mV M) 0, (10, .inl (fun _ => 0)))), (q131, .inl (vC (mV M) 0, (10, .inl (fun _ => 0)))), (q143, .inr (9, [.ref q145, .int (-1 : Int32), .int (0 : Int32)])), (q145, .inl (vC (mV M) 3, (60, .inr (.inl (fun _ => 0))))), (q151, .inr (9, [.ref q153, .int (-1 : Int32), .int (0 : Int32)])), (q153, .inl (vC (mV M) 3, (60, .inr (.inl (fun _ => 0))))), (q159, .inr (9, [.ref q161, .int (-1 : Int32), .int (0 : Int32)])), (q161, .inl (vC (mV M) 3, (60, .inr (.inl (fun _ => 0))))), (q167, .inr (9, [.ref q169, .int (-1 : Int32), .int (0 : Int32)])), (q169, .inl (vC (mV M) 3, (60, .inr (.inl (fun _ => 0)))))] := bZ
  clear bZ b170
  have c174 := eZ.trans c171
  clear eZ
  refine Z_iinc (v := (4 : Int32)) C dX11_init_166 0 rfl (by decide +kernel) (by rw [hN]; decide) rfl ?_
  refine Z_goto C dX11_init_169 (tgt := 147) (by decide +kernel) ?_
  refine Z_iload_n C dX11_init_147 0 rfl ?_
  refine Z_bipush C dX11_init_148 (v := (6 : Int32)) (by decide +kernel) ?_
  refine Z_icmp_ge C dX11_init_150 (tgt := 172) (by decide +kernel) (fun z => absurd z (by decide +kernel)) (fun _ => ?_)
  refine Z_aload_n C dX11_init_153 2 rfl ?_
  refine Y_get C fa_X11_init_47 b173 c174 rfl dX11_init_154 ?_
  refine Z_iload_n C dX11_init_157 0 rfl ?_
  refine Z_new (fs := [.null, .int 0, .int 0]) C hU (ci := 9) rfl (fun _ h => List.mem_cons_of_mem _ (List.mem_append_right _ h)) tyX9_ok (List.mem_of_getElem? (i := 17) rfl) (List.mem_of_getElem? (i := 30) rfl) (List.mem_of_getElem? (i := 31) rfl) dfX9 (Nat.le_of_ble_eq_true rfl) (Nat.le_of_ble_eq_true rfl) dX11_init_158 (fun q175 hq175 => ?_)
  show PR M 161 [(2, .int (4 : Int32)), (1, .ref q126), (0, .ref h)] [.ref q175, .int (4 : Int32), .ref q90] (rnew ω172 q175 (.inr (9, [.null, .int 0, .int 0]))) (70, 940)
  refine Z_dup C dX11_init_161 rfl ?_
  refine Z_ciN (rc0 := (rmr 1 1 (60))) (Qk := TB (mV M) (rnew ω172 q175 (.inr (9, [.null, .int 0, .int 0]))) q175) (b := q175) (As := []) C ki_X11_init_X9_init_75 (fun h9 => h9.2.2) hNW rfl (Nat.le_of_ble_eq_true rfl) dX11_init_162 ⟨Nat.le_of_ble_eq_true rfl, Nat.le_of_ble_eq_true rfl⟩ (k_X9_init hU (List.mem_append_right _ (List.mem_singleton.mpr rfl)) (va_up_self _ _ _) ) (fun ω176 bZ => ?_)
  obtain ⟨q177, bZ, cZ⟩ := bZ
  obtain ⟨bZ, eZ⟩ := BT_call b173 hq175 bZ cZ
  have b178 := bZ
  clear bZ b173
  have c179 := eZ.trans c174
  clear cZ eZ
  show PR M 165 [(2, .int (4 : Int32)), (1, .ref q126), (0, .ref h)] [.ref q175, .int (4 : Int32), .ref q90] ω176 (71, 1000)
  refine Y_aast (k := 50) (k2 := 69) C b178 rfl rfl rfl rfl (vp_in_iff.mpr ⟨by decide +kernel, by decide +kernel⟩) dX11_init_165 (fun ω180 bZ eZ => ?_)
  have b181 : BT ω0 ω180 h [(q1, .inr (1, [.ref q3, .int (0 : Int32), .ref q4, .int (0 : Int32), .ref q5, .ref q6, .ref q7, .ref q8, .ref q9, .int (0 : Int32), .ref q126, .int (-1 : Int32), .ref q10, .ref q12, .ref q14, .ref q16, .ref q17])), (q3, .inl (vC (mV M) 4, 6, .inr (.inr (.inr (.inr (fun _ => none)))))), (q4, .inl (vC (mV M) 0, (6, .inl (fun _ => 0)))), (q5, .inl (vC (mV M) 0, (6, .inl (fun _ => 0)))), (q6, .inl (vC (mV M) 0, (6, .inl (fun _ => 0)))), (q7, .inl (vC (mV M) 0, (6, .inl (fun _ => 0)))), (q8, .inl (vC (mV M) 0, (6, .inl (fun _ => 0)))), (q9, .inl (vC (mV M) 0, (24, .inl (fun _ => 0)))), (q10, .inr (5, [.ref q11, .int (0 : Int32)])), (q11, .inl (vC (mV M) 0, (18, .inl (fun _ => 0)))), (q12, .inr (5, [.ref q13, .int (0 : Int32)])), (q13, .inl (vC (mV M) 0, (10, .inl (fun _ => 0)))), (q14, .inr (5, [.ref q15, .int (0 : Int32)])), (q15, .inl (vC (mV M) 0, (8, .inl (fun _ => 0)))), (q16, .inl (vC (mV M) 0, (6, .inl (fun _ => 0)))), (q17, .inl (vC (mV M) 0, (6, .inl (fun _ => 0)))), (q23, .inr (1, [.ref q25, .int (0 : Int32), .ref q26, .int (0 : Int32), .ref q27, .ref q28, .ref q29, .ref q30, .ref q31, .int (0 : Int32), .ref q126, .int (-1 : Int32), .ref q32, .ref q34, .ref q36, .ref q38, .ref q39])), (q25, .inl (vC (mV M) 4, 6, .inr (.inr (.inr (.inr (fun _ => none)))))), (q26, .inl (vC (mV M) 0, (6, .inl (fun _ => 0)))), (q27, .inl (vC (mV M) 0, (6, .inl (fun _ => 0)))), (q28, .inl (vC (mV M) 0, (6, .inl (fun _ => 0)))), (q29, .inl (vC (mV M) 0, (6, .inl (fun _ => 0)))), (q30, .inl (vC (mV M) 0, (6, .inl (fun _ => 0)))), (q31, .inl (vC (mV M) 0, (24, .inl (fun _ => 0)))), (q32, .inr (5, [.ref q33, .int (0 : Int32)])), (q33, .inl (vC (mV M) 0, (18, .inl (fun _ => 0)))), (q34, .inr (5, [.ref q35, .int (0 : Int32)])), (q35, .inl (vC (mV M) 0, (10, .inl (fun _ => 0)))), (q36, .inr (5, [.ref q37, .int (0 : Int32)])), (q37, .inl (vC (mV M) 0, (8, .inl (fun _ => 0)))), (q38, .inl (vC (mV M) 0, (6, .inl (fun _ => 0)))), (q39, .inl (vC (mV M) 0, (6, .inl (fun _ => 0)))), (q45, .inr (1, [.ref q47, .int (0 : Int32), .ref q48, .int (0 : Int32), .ref q49, .ref q50, .ref q51, .ref q52, .ref q53, .int (0 : Int32), .ref q126, .int (-1 : Int32), .ref q54, .ref q56, .ref q58, .ref q60, .ref q61])), (q47, .inl (vC (mV M) 4, 6, .inr (.inr (.inr (.inr (fun _ => none)))))), (q48, .inl (vC (mV M) 0, (6, .inl (fun _ => 0)))), (q49, .inl (vC (mV M) 0, (6, .inl (fun _ => 0)))), (q50, .inl (vC (mV M) 0, (6, .inl (fun _ => 0)))), (q51, .inl (vC (mV M) 0, (6, .inl (fun _ => 0)))), (q52, .inl (vC (mV M) 0, (6, .inl (fun _ => 0)))), (q53, .inl (vC (mV M) 0, (24, .inl (fun _ => 0)))), (q54, .inr (5, [.ref q55, .int (0 : Int32)])), (q55, .inl (vC (mV M) 0, (18, .inl (fun _ => 0)))), (q56, .inr (5, [.ref q57, .int (0 : Int32)])), (q57, .inl (vC (mV M) 0, (10, .inl (fun _ => 0)))), (q58, .inr (5, [.ref q59, .int (0 : Int32)])), (q59, .inl (vC (mV M) 0, (8, .inl (fun _ => 0)))), (q60, .inl (vC (mV M) 0, (6, .inl (fun _ => 0)))), (q61, .inl (vC (mV M) 0, (6, .inl (fun _ => 0)))), (q70, .inl (vC (mV M) 5, 6, .inr (.inr (.inr (.inr (fun _ => none)))))), (q80, .inl (vC (mV M) 1, (100, .inl (fun _ => 0)))), (q90, .inl (vC (mV M) 6, 6, .inr (.inr (.inr (.inr (va_up (va_up (va_up (va_up (va_up (fun _ => none) 0 (some q143)) 1 (some q151)) 2 (some q159)) 3 (some q167)) 4 (some q175))))))), (q97, .inr (5, [.ref q99, .int (0 : Int32)])), (q99, .inl (vC (mV M) 0, (20, .inl (fun _ => 0)))), (q105, .inl (vC (mV M) 0, (5, .inl (fun _ => 0)))), (q112, .inl (vC (mV M) 0, (5, .inl (fun _ => 0)))), (q119, .inl (vC (mV M) 0, (6, .inl (fun _ => 0)))), (q126, .inr (2, [.int (2 : Int32), .int (1 : Int32), .int (60 : Int32), .ref q128, .int (0 : Int32), .ref q129, .ref q130, .ref q131, .int (0 : Int32), .null, .int (0 : Int32), .int (0 : Int32)])), (q128, .inl (vC (mV M) 0, (100, .inl (fun _ => 0)))), (q129, .inl (vC (mV M) 0, (10, .inl (fun _ => 0)))), (q130, .inl (vC (mV M) 0, (10, .inl (fun _ => 0)))), (q131, .inl (vC (mV M) 0, (10, .inl (fun _ => 0)))), (q143, .inr (9, [.ref q145, .int (-1 : Int32), .int (0 : Int32)])), (q145, .inl (vC (mV M) 3, (60, .inr (.inl (fun _ => 0))))), (q151, .inr (9, [.ref q153, .int (-1 : Int32), .int (0 : Int32)])), (q153, .inl (vC (mV M) 3, (60, .inr (.inl (fun _ => 0))))), (q159, .inr (9, [.ref q161, .int (-1 : Int32), .int (0 : Int32)])), (q161, .inl (vC (mV M) 3, (60, .inr (.inl (fun _ => 0))))), (q167, .inr (9, [.ref q169, .int (-1 : Int32), .int (0 : Int32)])), (q169, .inl (vC (mV M) 3, (60, .inr (.inl (fun _ => 0))))), (q175, .inr (9, [.ref q177, .int (-1 : Int32), .int (0 : Int32)])), (q177, .inl (vC (mV M) 3, (60, .inr (.inl (fun _ => 0)))))] := bZ
  clear bZ b178
  have c182 := eZ.trans c179
  clear eZ
  refine Z_iinc (v := (5 : Int32)) C dX11_init_166 0 rfl (by decide +kernel) (by rw [hN]; decide) rfl ?_
  refine Z_goto C dX11_init_169 (tgt := 147) (by decide +kernel) ?_
  refine Z_iload_n C dX11_init_147 0 rfl ?_
  refine Z_bipush C dX11_init_148 (v := (6 : Int32)) (by decide +kernel) ?_
  refine Z_icmp_ge C dX11_init_150 (tgt := 172) (by decide +kernel) (fun z => absurd z (by decide +kernel)) (fun _ => ?_)
  refine Z_aload_n C dX11_init_153 2 rfl ?_
  refine Y_get C fa_X11_init_47 b181 c182 rfl dX11_init_154 ?_
  refine Z_iload_n C dX11_init_157 0 rfl ?_
  refine Z_new (fs := [.null, .int 0, .int 0]) C hU (ci := 9) rfl (fun _ h => List.mem_cons_of_mem _ (List.mem_append_right _ h)) tyX9_ok (List.mem_of_getElem? (i := 17) rfl) (List.mem_of_getElem? (i := 30) rfl) (List.mem_of_getElem? (i := 31) rfl) dfX9 (Nat.le_of_ble_eq_true rfl) (Nat.le_of_ble_eq_true rfl) dX11_init_158 (fun q183 hq183 => ?_)
  show PR M 161 [(2, .int (5 : Int32)), (1, .ref q126), (0, .ref h)] [.ref q183, .int (5 : Int32), .ref q90] (rnew ω180 q183 (.inr (9, [.null, .int 0, .int 0]))) (72, 1003)
  refine Z_dup C dX11_init_161 rfl ?_
  refine Z_ciN (rc0 := (rmr 1 1 (60))) (Qk := TB (mV M) (rnew ω180 q183 (.inr (9, [.null, .int 0, .int 0]))) q183) (b := q183) (As := []) C ki_X11_init_X9_init_75 (fun h9 => h9.2.2) hNW rfl (Nat.le_of_ble_eq_true rfl) dX11_init_162 ⟨Nat.le_of_ble_eq_true rfl, Nat.le_of_ble_eq_true rfl⟩ (k_X9_init hU (List.mem_append_right _ (List.mem_singleton.mpr rfl)) (va_up_self _ _ _) ) (fun ω184 bZ => ?_)
  obtain ⟨q185, bZ, cZ⟩ := bZ
  obtain ⟨bZ, eZ⟩ := BT_call b181 hq183 bZ cZ
  have b186 := bZ
  clear bZ b181
  have c187 := eZ.trans c182
  clear cZ eZ
  show PR M 165 [(2, .int (5 : Int32)), (1, .ref q126), (0, .ref h)] [.ref q183, .int (5 : Int32), .ref q90] ω184 (73, 1063)
  refine Y_aast (k := 50) (k2 := 71) C b186 rfl rfl rfl rfl (vp_in_iff.mpr ⟨by decide +kernel, by decide +kernel⟩) dX11_init_165 (fun ω188 bZ eZ => ?_)
  have b189 : BT ω0 ω188 h [(q1, .inr (1, [.ref q3, .int (0 : Int32), .ref q4, .int (0 : Int32), .ref q5, .ref q6, .ref q7, .ref q8, .ref q9, .int (0 : Int32), .ref q126, .int (-1 : Int32), .ref q10, .ref q12, .ref q14, .ref q16, .ref q17])), (q3, .inl (vC (mV M) 4, 6, .inr (.inr (.inr (.inr (fun _ => none)))))), (q4, .inl (vC (mV M) 0, (6, .inl (fun _ => 0)))), (q5, .inl (vC (mV M) 0, (6, .inl (fun _ => 0)))), (q6, .inl (vC (mV M) 0, (6, .inl (fun _ => 0)))), (q7, .inl (vC (mV M) 0, (6, .inl (fun _ => 0)))), (q8, .inl (vC (mV M) 0, (6, .inl (fun _ => 0)))), (q9, .inl (vC (mV M) 0, (24, .inl (fun _ => 0)))), (q10, .inr (5, [.ref q11, .int (0 : Int32)])), (q11, .inl (vC (mV M) 0, (18, .inl (fun _ => 0)))), (q12, .inr (5, [.ref q13, .int (0 : Int32)])), (q13, .inl (vC (mV M) 0, (10, .inl (fun _ => 0)))), (q14, .inr (5, [.ref q15, .int (0 : Int32)])), (q15, .inl (vC (mV M) 0, (8, .inl (fun _ => 0)))), (q16, .inl (vC (mV M) 0, (6, .inl (fun _ => 0)))), (q17, .inl (vC (mV M) 0, (6, .inl (fun _ => 0)))), (q23, .inr (1, [.ref q25, .int (0 : Int32), .ref q26, .int (0 : Int32), .ref q27, .ref q28, .ref q29, .ref q30, .ref q31, .int (0 : Int32), .ref q126, .int (-1 : Int32), .ref q32, .ref q34, .ref q36, .ref q38, .ref q39])), (q25, .inl (vC (mV M) 4, 6, .inr (.inr (.inr (.inr (fun _ => none)))))), (q26, .inl (vC (mV M) 0, (6, .inl (fun _ => 0)))), (q27, .inl (vC (mV M) 0, (6, .inl (fun _ => 0)))), (q28, .inl (vC (mV M) 0, (6, .inl (fun _ => 0)))), (q29, .inl (vC (mV M) 0, (6, .inl (fun _ => 0)))), (q30, .inl (vC (mV M) 0, (6, .inl (fun _ => 0)))), (q31, .inl (vC (mV M) 0, (24, .inl (fun _ => 0)))), (q32, .inr (5, [.ref q33, .int (0 : Int32)])), (q33, .inl (vC (mV M) 0, (18, .inl (fun _ => 0)))), (q34, .inr (5, [.ref q35, .int (0 : Int32)])), (q35, .inl (vC (mV M) 0, (10, .inl (fun _ => 0)))), (q36, .inr (5, [.ref q37, .int (0 : Int32)])), (q37, .inl (vC (mV M) 0, (8, .inl (fun _ => 0)))), (q38, .inl (vC (mV M) 0, (6, .inl (fun _ => 0)))), (q39, .inl (vC (mV M) 0, (6, .inl (fun _ => 0)))), (q45, .inr (1, [.ref q47, .int (0 : Int32), .ref q48, .int (0 : Int32), .ref q49, .ref q50, .ref q51, .ref q52, .ref q53, .int (0 : Int32), .ref q126, .int (-1 : Int32), .ref q54, .ref q56, .ref q58, .ref q60, .ref q61])), (q47, .inl (vC (mV M) 4, 6, .inr (.inr (.inr (.inr (fun _ => none)))))), (q48, .inl (vC (mV M) 0, (6, .inl (fun _ => 0)))), (q49, .inl (vC (mV M) 0, (6, .inl (fun _ => 0)))), (q50, .inl (vC (mV M) 0, (6, .inl (fun _ => 0)))), (q51, .inl (vC (mV M) 0, (6, .inl (fun _ => 0)))), (q52, .inl (vC (mV M) 0, (6, .inl (fun _ => 0)))), (q53, .inl (vC (mV M) 0, (24, .inl (fun _ => 0)))), (q54, .inr (5, [.ref q55, .int (0 : Int32)])), (q55, .inl (vC (mV M) 0, (18, .inl (fun _ => 0)))), (q56, .inr (5, [.ref q57, .int (0 : Int32)])), (q57, .inl (vC (mV M) 0, (10, .inl (fun _ => 0)))), (q58, .inr (5, [.ref q59, .int (0 : Int32)])), (q59, .inl (vC (mV M) 0, (8, .inl (fun _ => 0)))), (q60, .inl (vC (mV M) 0, (6, .inl (fun _ => 0)))), (q61, .inl (vC (mV M) 0, (6, .inl (fun _ => 0)))), (q70, .inl (vC (mV M) 5, 6, .inr (.inr (.inr (.inr (fun _ => none)))))), (q80, .inl (vC (mV M) 1, (100, .inl (fun _ => 0)))), (q90, .inl (vC (mV M) 6, 6, .inr (.inr (.inr (.inr (va_up (va_up (va_up (va_up (va_up (va_up (fun _ => none) 0 (some q143)) 1 (some q151)) 2 (some q159)) 3 (some q167)) 4 (some q175)) 5 (some q183))))))), (q97, .inr (5, [.ref q99, .int (0 : Int32)])), (q99, .inl (vC (mV M) 0, (20, .inl (fun _ => 0)))), (q105, .inl (vC (mV M) 0, (5, .inl (fun _ => 0)))), (q112, .inl (vC (mV M) 0, (5, .inl (fun _ => 0)))), (q119, .inl (vC (mV M) 0, (6, .inl (fun _ => 0)))), (q126, .inr (2, [.int (2 : Int32), .int (1 : Int32), .int (60 : Int32), .ref q128, .int (0 : Int32), .ref q129, .ref q130, .ref q131, .int (0 : Int32), .null, .int (0 : Int32), .int (0 : Int32)])), (q128, .inl (vC (mV M) 0, (100, .inl (fun _ => 0)))), (q129, .inl (vC (mV M) 0, (10, .inl (fun _ => 0)))), (q130, .inl (vC (mV M) 0, (10, .inl (fun _ => 0)))), (q131, .inl (vC (mV M) 0, (10, .inl (fun _ => 0)))), (q143, .inr (9, [.ref q145, .int (-1 : Int32), .int (0 : Int32)])), (q145, .inl (vC (mV M) 3, (60, .inr (.inl (fun _ => 0))))), (q151, .inr (9, [.ref q153, .int (-1 : Int32), .int (0 : Int32)])), (q153, .inl (vC (mV M) 3, (60, .inr (.inl (fun _ => 0))))), (q159, .inr (9, [.ref q161, .int (-1 : Int32), .int (0 : Int32)])), (q161, .inl (vC (mV M) 3, (60, .inr (.inl (fun _ => 0))))), (q167, .inr (9, [.ref q169, .int (-1 : Int32), .int (0 : Int32)])), (q169, .inl (vC (mV M) 3, (60, .inr (.inl (fun _ => 0))))), (q175, .inr (9, [.ref q177, .int (-1 : Int32), .int (0 : Int32)])), (q177, .inl (vC (mV M) 3, (60, .inr (.inl (fun _ => 0))))), (q183, .inr (9, [.ref q185, .int (-1 : Int32), .int (0 : Int32)])), (q185, .inl (vC (mV M) 3, (60, .inr (.inl (fun _ => 0)))))] := bZ
  clear bZ b186
  have c190 := eZ.trans c187
  clear eZ
  refine Z_iinc (v := (6 : Int32)) C dX11_init_166 0 rfl (by decide +kernel) (by rw [hN]; decide) rfl ?_
  refine Z_goto C dX11_init_169 (tgt := 147) (by decide +kernel) ?_
  refine Z_iload_n C dX11_init_147 0 rfl ?_
  refine Z_bipush C dX11_init_148 (v := (6 : Int32)) (by decide +kernel) ?_
  refine Z_icmp_ge C dX11_init_150 (tgt := 172) (by decide +kernel) (fun _ => ?_) (fun z => absurd (by decide +kernel) z)
  exact Z_vret C dX11_init_172 ⟨q1, q3, q4, q5, q6, q7, q8, q9, q10, q11, q12, q13, q14, q15, q16, q17, q23, q25, q26, q27, q28, q29, q30, q31, q32, q33, q34, q35, q36, q37, q38, q39, q45, q47, q48, q49, q50, q51, q52, q53, q54, q55, q56, q57, q58, q59, q60, q61, q70, q80, q90, q97, q99, q105, q112, q119, q126, q128, q129, q130, q131, q143, q145, q151, q153, q159, q161, q167, q169, q175, q177, q183, q185, b189, c190⟩
