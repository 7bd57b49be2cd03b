noncomputable def MB (V : Vx) (ω0 : RWd) (h : Nat) (ω : RWd) : Prop := ∃ q10 q17 q24 q31 q38 q45 q52 q59 q81 q88 q95 q102 q109 q116 q123 q130 q146 q213 q223 q230 q240 q247 q254 q261 q268 q275 q282 q292 q299 q306 q319 q326 q354 q361 q368 q375 q382 q389 q396 q403 q410 q417 q424 q431 q438 q448 q455 q480 q487 q494 : Nat, BT ω0 ω h [(q10, .inl (vC V 0, (6, .inl (fun _ => 0)))), (q17, .inl (vC V 0, (6, .inl (fun _ => 0)))), (q24, .inl (vC V 0, (6, .inl (fun _ => 0)))), (q31, .inl (vC V 0, (6, .inl (fun _ => 0)))), (q38, .inl (vC V 0, (6, .inl (fun _ => 0)))), (q45, .inl (vC V 0, (6, .inl (fun _ => 0)))), (q52, .inl (vC V 0, (24, .inl (fun _ => 0)))), (q59, .inl (vC V 0, (6, .inl (fun _ => 0)))), (q81, .inl (vC V 0, (100, .inl (fun _ => 0)))), (q88, .inl (vC V 0, (6, .inl (fun _ => 0)))), (q95, .inl (vC V 0, (60, .inl (fun _ => 0)))), (q102, .inl (vC V 0, (60, .inl (fun _ => 0)))), (q109, .inl (vC V 0, (60, .inl (fun _ => 0)))), (q116, .inl (vC V 0, (60, .inl (fun _ => 0)))), (q123, .inl (vC V 0, (600, .inl (fun _ => 0)))), (q130, .inl (vC V 0, (101, .inl (fun _ => 0)))), (q146, .inl (vC V 0, (19, .inl (upd (upd (upd (upd (upd (upd (upd (upd (upd (upd (upd (upd (upd (upd (upd (upd (upd (upd (upd (fun _ => 0) 0 (102 : Int32)) 1 (97 : Int32)) 2 (115 : Int32)) 3 (116 : Int32)) 4 (115 : Int32)) 5 (108 : Int32)) 6 (111 : Int32)) 7 (119 : Int32)) 8 (103 : Int32)) 9 (97 : Int32)) 10 (112 : Int32)) 11 (116 : Int32)) 12 (105 : Int32)) 13 (114 : Int32)) 14 (101 : Int32)) 15 (108 : Int32)) 16 (111 : Int32)) 17 (110 : Int32)) 18 (103 : Int32))))), (q213, .inl (vC V 2, (100, .inl (fun _ => 0)))), (q223, .inl (vC V 0, (6, .inl (fun _ => 0)))), (q230, .inl (vC V 0, (6, .inl (fun _ => 0)))), (q240, .inl (vC V 0, (6, .inl (fun _ => 0)))), (q247, .inl (vC V 0, (6, .inl (fun _ => 0)))), (q254, .inl (vC V 0, (6, .inl (fun _ => 0)))), (q261, .inl (vC V 0, (6, .inl (fun _ => 0)))), (q268, .inl (vC V 0, (6, .inl (fun _ => 0)))), (q275, .inl (vC V 0, (6, .inl (fun _ => 0)))), (q282, .inl (vC V 0, (6, .inl (fun _ => 0)))), (q292, .inl (vC V 0, (6, .inl (fun _ => 0)))), (q299, .inl (vC V 0, (6, .inl (fun _ => 0)))), (q306, .inl (vC V 0, (6, .inl (fun _ => 0)))), (q319, .inl (vC V 0, (10, .inl (fun _ => 0)))), (q326, .inl (vC V 0, (8, .inl (fun _ => 0)))), (q354, .inl (vC V 0, (6, .inl (fun _ => 0)))), (q361, .inl (vC V 0, (6, .inl (fun _ => 0)))), (q368, .inl (vC V 0, (6, .inl (fun _ => 0)))), (q375, .inl (vC V 0, (6, .inl (fun _ => 0)))), (q382, .inl (vC V 0, (6, .inl (fun _ => 0)))), (q389, .inl (vC V 0, (6, .inl (fun _ => 0)))), (q396, .inl (vC V 0, (6, .inl (fun _ => 0)))), (q403, .inl (vC V 0, (24, .inl (fun _ => 0)))), (q410, .inl (vC V 0, (6, .inl (fun _ => 0)))), (q417, .inl (vC V 0, (6, .inl (fun _ => 0)))), (q424, .inl (vC V 0, (6, .inl (fun _ => 0)))), (q431, .inl (vC V 0, (10, .inl (fun _ => 0)))), (q438, .inl (vC V 0, (8, .inl (fun _ => 0)))), (q448, .inl (vC V 0, (20, .inl (fun _ => 0)))), (q455, .inl (vC V 0, (6, .inl (upd (upd (upd (upd (upd (upd (fun _ => 0) 0 (-1 : Int32)) 1 (-1 : Int32)) 2 (-1 : Int32)) 3 (-1 : Int32)) 4 (-1 : Int32)) 5 (-1 : Int32))))), (q480, .inl (vC V 0, (6, .inl (fun _ => 0)))), (q487, .inl (vC V 3, (360, .inr (.inl (fun _ => 0))))), (q494, .inl (vC V 3, (60, .inr (.inl (fun _ => 0)))))] ∧ ω.2 h = .inr (12, [.int (0 : Int32), .int (0 : Int32), .int (0 : Int32), .ref q10, .ref q17, .ref q24, .ref q31, .ref q38, .ref q45, .ref q52, .ref q59, .int (0 : Int32), .int (-1 : Int32), .int (0 : Int32), .int (0 : Int32), .int (0 : Int32), .ref q81, .ref q88, .ref q95, .ref q102, .ref q109, .ref q116, .ref q123, .ref q130, .int (0 : Int32), .int (0 : Int32), .int (0 : Int32), .ref q146, .int (-1 : Int32), .ref q213, .int (0 : Int32), .ref q223, .ref q230, .int (0 : Int32), .ref q240, .ref q247, .ref q254, .ref q261, .ref q268, .ref q275, .ref q282, .int (0 : Int32), .ref q292, .ref q299, .ref q306, .int (0 : Int32), .int (0 : Int32), .ref q319, .ref q326, .int (0 : Int32), .int (-1 : Int32), .int (0 : Int32), .int (0 : Int32), .int (0 : Int32), .int (0 : Int32), .int (0 : Int32), .ref q354, .ref q361, .ref q368, .ref q375, .ref q382, .ref q389, .ref q396, .ref q403, .ref q410, .ref q417, .ref q424, .ref q431, .ref q438, .int (0 : Int32), .ref q448, .ref q455, .ref q480, .ref q487, .ref q494])
theorem pa_X12_init_7 : PA RX12 wsX12_init 7 12 0 "NineMowersModel" .int := by
  show _ ∧ _ ∧ _ ∧ _ ∧ _ ∧ _ ∧ _ ∧ _
  exact ⟨by decide +kernel, fun _ h => List.mem_cons_of_mem _ (List.mem_append_right _ h), List.mem_of_getElem? (i := 4) rfl, rfl, rfl, by decide +kernel, ⟨tyX12, tyX12_ok⟩, nmX12⟩
theorem pa_X12_init_13 : PA RX12 wsX12_init 13 12 1 "NineMowersModel" .int := by
  show _ ∧ _ ∧ _ ∧ _ ∧ _ ∧ _ ∧ _ ∧ _
  exact ⟨by decide +kernel, fun _ h => List.mem_cons_of_mem _ (List.mem_append_right _ h), List.mem_of_getElem? (i := 5) rfl, rfl, rfl, by decide +kernel, ⟨tyX12, tyX12_ok⟩, nmX12⟩
theorem pa_X12_init_16 : PA RX12 wsX12_init 16 12 2 "NineMowersModel" .int := by
  show _ ∧ _ ∧ _ ∧ _ ∧ _ ∧ _ ∧ _ ∧ _
  exact ⟨by decide +kernel, fun _ h => List.mem_cons_of_mem _ (List.mem_append_right _ h), List.mem_of_getElem? (i := 6) rfl, rfl, rfl, by decide +kernel, ⟨tyX12, tyX12_ok⟩, nmX12⟩
theorem pf_X12_init_19 : PF RX12 wsX12_init 19 12 3 "NineMowersModel" (.array .int) := by
  show _ ∧ _ ∧ _ ∧ _ ∧ _ ∧ _ ∧ _ ∧ _ ∧ _
  exact ⟨by decide +kernel, fun _ h => List.mem_cons_of_mem _ (List.mem_append_right _ h), List.mem_of_getElem? (i := 8) rfl, rfl, rfl, rfl, by decide +kernel, ⟨tyX12, tyX12_ok⟩, nmX12⟩
theorem pf_X12_init_23 : PF RX12 wsX12_init 23 12 4 "NineMowersModel" (.array .int) := by
  show _ ∧ _ ∧ _ ∧ _ ∧ _ ∧ _ ∧ _ ∧ _ ∧ _
  exact ⟨by decide +kernel, fun _ h => List.mem_cons_of_mem _ (List.mem_append_right _ h), List.mem_of_getElem? (i := 9) rfl, rfl, rfl, rfl, by decide +kernel, ⟨tyX12, tyX12_ok⟩, nmX12⟩
theorem pf_X12_init_26 : PF RX12 wsX12_init 26 12 5 "NineMowersModel" (.array .int) := by
  show _ ∧ _ ∧ _ ∧ _ ∧ _ ∧ _ ∧ _ ∧ _ ∧ _
  exact ⟨by decide +kernel, fun _ h => List.mem_cons_of_mem _ (List.mem_append_right _ h), List.mem_of_getElem? (i := 10) rfl, rfl, rfl, rfl, by decide +kernel, ⟨tyX12, tyX12_ok⟩, nmX12⟩
theorem pf_X12_init_29 : PF RX12 wsX12_init 29 12 6 "NineMowersModel" (.array .int) := by
  show _ ∧ _ ∧ _ ∧ _ ∧ _ ∧ _ ∧ _ ∧ _ ∧ _
  exact ⟨by decide +kernel, fun _ h => List.mem_cons_of_mem _ (List.mem_append_right _ h), List.mem_of_getElem? (i := 11) rfl, rfl, rfl, rfl, by decide +kernel, ⟨tyX12, tyX12_ok⟩, nmX12⟩
theorem pf_X12_init_32 : PF RX12 wsX12_init 32 12 7 "NineMowersModel" (.array .int) := by
  show _ ∧ _ ∧ _ ∧ _ ∧ _ ∧ _ ∧ _ ∧ _ ∧ _
  exact ⟨by decide +kernel, fun _ h => List.mem_cons_of_mem _ (List.mem_append_right _ h), List.mem_of_getElem? (i := 12) rfl, rfl, rfl, rfl, by decide +kernel, ⟨tyX12, tyX12_ok⟩, nmX12⟩
theorem pf_X12_init_35 : PF RX12 wsX12_init 35 12 8 "NineMowersModel" (.array .int) := by
  show _ ∧ _ ∧ _ ∧ _ ∧ _ ∧ _ ∧ _ ∧ _ ∧ _
  exact ⟨by decide +kernel, fun _ h => List.mem_cons_of_mem _ (List.mem_append_right _ h), List.mem_of_getElem? (i := 13) rfl, rfl, rfl, rfl, by decide +kernel, ⟨tyX12, tyX12_ok⟩, nmX12⟩
theorem pf_X12_init_38 : PF RX12 wsX12_init 38 12 9 "NineMowersModel" (.array .int) := by
  show _ ∧ _ ∧ _ ∧ _ ∧ _ ∧ _ ∧ _ ∧ _ ∧ _
  exact ⟨by decide +kernel, fun _ h => List.mem_cons_of_mem _ (List.mem_append_right _ h), List.mem_of_getElem? (i := 14) rfl, rfl, rfl, rfl, by decide +kernel, ⟨tyX12, tyX12_ok⟩, nmX12⟩
theorem pf_X12_init_41 : PF RX12 wsX12_init 41 12 10 "NineMowersModel" (.array .int) := by
  show _ ∧ _ ∧ _ ∧ _ ∧ _ ∧ _ ∧ _ ∧ _ ∧ _
  exact ⟨by decide +kernel, fun _ h => List.mem_cons_of_mem _ (List.mem_append_right _ h), List.mem_of_getElem? (i := 15) rfl, rfl, rfl, rfl, by decide +kernel, ⟨tyX12, tyX12_ok⟩, nmX12⟩
theorem pa_X12_init_44 : PA RX12 wsX12_init 44 12 11 "NineMowersModel" .int := by
  show _ ∧ _ ∧ _ ∧ _ ∧ _ ∧ _ ∧ _ ∧ _
  exact ⟨by decide +kernel, fun _ h => List.mem_cons_of_mem _ (List.mem_append_right _ h), List.mem_of_getElem? (i := 16) rfl, rfl, rfl, by decide +kernel, ⟨tyX12, tyX12_ok⟩, nmX12⟩
theorem pa_X12_init_47 : PA RX12 wsX12_init 47 12 12 "NineMowersModel" .int := by
  show _ ∧ _ ∧ _ ∧ _ ∧ _ ∧ _ ∧ _ ∧ _
  exact ⟨by decide +kernel, fun _ h => List.mem_cons_of_mem _ (List.mem_append_right _ h), List.mem_of_getElem? (i := 17) rfl, rfl, rfl, by decide +kernel, ⟨tyX12, tyX12_ok⟩, nmX12⟩
theorem pa_X12_init_50 : PA RX12 wsX12_init 50 12 13 "NineMowersModel" .int := by
  show _ ∧ _ ∧ _ ∧ _ ∧ _ ∧ _ ∧ _ ∧ _
  exact ⟨by decide +kernel, fun _ h => List.mem_cons_of_mem _ (List.mem_append_right _ h), List.mem_of_getElem? (i := 18) rfl, rfl, rfl, by decide +kernel, ⟨tyX12, tyX12_ok⟩, nmX12⟩
theorem pa_X12_init_53 : PA RX12 wsX12_init 53 12 14 "NineMowersModel" .int := by
  show _ ∧ _ ∧ _ ∧ _ ∧ _ ∧ _ ∧ _ ∧ _
  exact ⟨by decide +kernel, fun _ h => List.mem_cons_of_mem _ (List.mem_append_right _ h), List.mem_of_getElem? (i := 19) rfl, rfl, rfl, by decide +kernel, ⟨tyX12, tyX12_ok⟩, nmX12⟩
theorem pa_X12_init_56 : PA RX12 wsX12_init 56 12 15 "NineMowersModel" .int := by
  show _ ∧ _ ∧ _ ∧ _ ∧ _ ∧ _ ∧ _ ∧ _
  exact ⟨by decide +kernel, fun _ h => List.mem_cons_of_mem _ (List.mem_append_right _ h), List.mem_of_getElem? (i := 20) rfl, rfl, rfl, by decide +kernel, ⟨tyX12, tyX12_ok⟩, nmX12⟩
theorem pf_X12_init_59 : PF RX12 wsX12_init 59 12 16 "NineMowersModel" (.array .int) := by
  show _ ∧ _ ∧ _ ∧ _ ∧ _ ∧ _ ∧ _ ∧ _ ∧ _
  exact ⟨by decide +kernel, fun _ h => List.mem_cons_of_mem _ (List.mem_append_right _ h), List.mem_of_getElem? (i := 21) rfl, rfl, rfl, rfl, by decide +kernel, ⟨tyX12, tyX12_ok⟩, nmX12⟩
theorem pf_X12_init_62 : PF RX12 wsX12_init 62 12 17 "NineMowersModel" (.array .int) := by
  show _ ∧ _ ∧ _ ∧ _ ∧ _ ∧ _ ∧ _ ∧ _ ∧ _
  exact ⟨by decide +kernel, fun _ h => List.mem_cons_of_mem _ (List.mem_append_right _ h), List.mem_of_getElem? (i := 22) rfl, rfl, rfl, rfl, by decide +kernel, ⟨tyX12, tyX12_ok⟩, nmX12⟩
theorem pf_X12_init_65 : PF RX12 wsX12_init 65 12 18 "NineMowersModel" (.array .int) := by
  show _ ∧ _ ∧ _ ∧ _ ∧ _ ∧ _ ∧ _ ∧ _ ∧ _
  exact ⟨by decide +kernel, fun _ h => List.mem_cons_of_mem _ (List.mem_append_right _ h), List.mem_of_getElem? (i := 23) rfl, rfl, rfl, rfl, by decide +kernel, ⟨tyX12, tyX12_ok⟩, nmX12⟩
theorem pf_X12_init_68 : PF RX12 wsX12_init 68 12 19 "NineMowersModel" (.array .int) := by
  show _ ∧ _ ∧ _ ∧ _ ∧ _ ∧ _ ∧ _ ∧ _ ∧ _
  exact ⟨by decide +kernel, fun _ h => List.mem_cons_of_mem _ (List.mem_append_right _ h), List.mem_of_getElem? (i := 24) rfl, rfl, rfl, rfl, by decide +kernel, ⟨tyX12, tyX12_ok⟩, nmX12⟩
theorem pf_X12_init_71 : PF RX12 wsX12_init 71 12 20 "NineMowersModel" (.array .int) := by
  show _ ∧ _ ∧ _ ∧ _ ∧ _ ∧ _ ∧ _ ∧ _ ∧ _
  exact ⟨by decide +kernel, fun _ h => List.mem_cons_of_mem _ (List.mem_append_right _ h), List.mem_of_getElem? (i := 25) rfl, rfl, rfl, rfl, by decide +kernel, ⟨tyX12, tyX12_ok⟩, nmX12⟩
theorem pf_X12_init_74 : PF RX12 wsX12_init 74 12 21 "NineMowersModel" (.array .int) := by
  show _ ∧ _ ∧ _ ∧ _ ∧ _ ∧ _ ∧ _ ∧ _ ∧ _
  exact ⟨by decide +kernel, fun _ h => List.mem_cons_of_mem _ (List.mem_append_right _ h), List.mem_of_getElem? (i := 26) rfl, rfl, rfl, rfl, by decide +kernel, ⟨tyX12, tyX12_ok⟩, nmX12⟩
theorem pf_X12_init_77 : PF RX12 wsX12_init 77 12 22 "NineMowersModel" (.array .int) := by
  show _ ∧ _ ∧ _ ∧ _ ∧ _ ∧ _ ∧ _ ∧ _ ∧ _
  exact ⟨by decide +kernel, fun _ h => List.mem_cons_of_mem _ (List.mem_append_right _ h), List.mem_of_getElem? (i := 27) rfl, rfl, rfl, rfl, by decide +kernel, ⟨tyX12, tyX12_ok⟩, nmX12⟩
theorem pf_X12_init_80 : PF RX12 wsX12_init 80 12 23 "NineMowersModel" (.array .int) := by
  show _ ∧ _ ∧ _ ∧ _ ∧ _ ∧ _ ∧ _ ∧ _ ∧ _
  exact ⟨by decide +kernel, fun _ h => List.mem_cons_of_mem _ (List.mem_append_right _ h), List.mem_of_getElem? (i := 28) rfl, rfl, rfl, rfl, by decide +kernel, ⟨tyX12, tyX12_ok⟩, nmX12⟩
theorem pa_X12_init_83 : PA RX12 wsX12_init 83 12 24 "NineMowersModel" .int := by
  show _ ∧ _ ∧ _ ∧ _ ∧ _ ∧ _ ∧ _ ∧ _
  exact ⟨by decide +kernel, fun _ h => List.mem_cons_of_mem _ (List.mem_append_right _ h), List.mem_of_getElem? (i := 29) rfl, rfl, rfl, by decide +kernel, ⟨tyX12, tyX12_ok⟩, nmX12⟩
theorem pa_X12_init_86 : PA RX12 wsX12_init 86 12 25 "NineMowersModel" .int := by
  show _ ∧ _ ∧ _ ∧ _ ∧ _ ∧ _ ∧ _ ∧ _
  exact ⟨by decide +kernel, fun _ h => List.mem_cons_of_mem _ (List.mem_append_right _ h), List.mem_of_getElem? (i := 30) rfl, rfl, rfl, by decide +kernel, ⟨tyX12, tyX12_ok⟩, nmX12⟩
theorem pa_X12_init_89 : PA RX12 wsX12_init 89 12 26 "NineMowersModel" .int := by
  show _ ∧ _ ∧ _ ∧ _ ∧ _ ∧ _ ∧ _ ∧ _
  exact ⟨by decide +kernel, fun _ h => List.mem_cons_of_mem _ (List.mem_append_right _ h), List.mem_of_getElem? (i := 31) rfl, rfl, rfl, by decide +kernel, ⟨tyX12, tyX12_ok⟩, nmX12⟩
theorem pf_X12_init_92 : PF RX12 wsX12_init 92 12 27 "NineMowersModel" (.array .int) := by
  show _ ∧ _ ∧ _ ∧ _ ∧ _ ∧ _ ∧ _ ∧ _ ∧ _
  exact ⟨by decide +kernel, fun _ h => List.mem_cons_of_mem _ (List.mem_append_right _ h), List.mem_of_getElem? (i := 32) rfl, rfl, rfl, rfl, by decide +kernel, ⟨tyX12, tyX12_ok⟩, nmX12⟩
theorem pa_X12_init_95 : PA RX12 wsX12_init 95 12 28 "NineMowersModel" .int := by
  show _ ∧ _ ∧ _ ∧ _ ∧ _ ∧ _ ∧ _ ∧ _
  exact ⟨by decide +kernel, fun _ h => List.mem_cons_of_mem _ (List.mem_append_right _ h), List.mem_of_getElem? (i := 33) rfl, rfl, rfl, by decide +kernel, ⟨tyX12, tyX12_ok⟩, nmX12⟩
theorem pf_X12_init_98 : PF RX12 wsX12_init 98 12 29 "NineMowersModel" (.array .boolean) := by
  show _ ∧ _ ∧ _ ∧ _ ∧ _ ∧ _ ∧ _ ∧ _ ∧ _
  exact ⟨by decide +kernel, fun _ h => List.mem_cons_of_mem _ (List.mem_append_right _ h), List.mem_of_getElem? (i := 35) rfl, rfl, rfl, rfl, by decide +kernel, ⟨tyX12, tyX12_ok⟩, nmX12⟩
theorem pa_X12_init_102 : PA RX12 wsX12_init 102 12 30 "NineMowersModel" .int := by
  show _ ∧ _ ∧ _ ∧ _ ∧ _ ∧ _ ∧ _ ∧ _
  exact ⟨by decide +kernel, fun _ h => List.mem_cons_of_mem _ (List.mem_append_right _ h), List.mem_of_getElem? (i := 36) rfl, rfl, rfl, by decide +kernel, ⟨tyX12, tyX12_ok⟩, nmX12⟩
theorem pf_X12_init_105 : PF RX12 wsX12_init 105 12 31 "NineMowersModel" (.array .int) := by
  show _ ∧ _ ∧ _ ∧ _ ∧ _ ∧ _ ∧ _ ∧ _ ∧ _
  exact ⟨by decide +kernel, fun _ h => List.mem_cons_of_mem _ (List.mem_append_right _ h), List.mem_of_getElem? (i := 37) rfl, rfl, rfl, rfl, by decide +kernel, ⟨tyX12, tyX12_ok⟩, nmX12⟩
theorem pf_X12_init_108 : PF RX12 wsX12_init 108 12 32 "NineMowersModel" (.array .int) := by
  show _ ∧ _ ∧ _ ∧ _ ∧ _ ∧ _ ∧ _ ∧ _ ∧ _
  exact ⟨by decide +kernel, fun _ h => List.mem_cons_of_mem _ (List.mem_append_right _ h), List.mem_of_getElem? (i := 38) rfl, rfl, rfl, rfl, by decide +kernel, ⟨tyX12, tyX12_ok⟩, nmX12⟩
theorem pa_X12_init_111 : PA RX12 wsX12_init 111 12 33 "NineMowersModel" .int := by
  show _ ∧ _ ∧ _ ∧ _ ∧ _ ∧ _ ∧ _ ∧ _
  exact ⟨by decide +kernel, fun _ h => List.mem_cons_of_mem _ (List.mem_append_right _ h), List.mem_of_getElem? (i := 39) rfl, rfl, rfl, by decide +kernel, ⟨tyX12, tyX12_ok⟩, nmX12⟩
theorem pf_X12_init_114 : PF RX12 wsX12_init 114 12 34 "NineMowersModel" (.array .int) := by
  show _ ∧ _ ∧ _ ∧ _ ∧ _ ∧ _ ∧ _ ∧ _ ∧ _
  exact ⟨by decide +kernel, fun _ h => List.mem_cons_of_mem _ (List.mem_append_right _ h), List.mem_of_getElem? (i := 40) rfl, rfl, rfl, rfl, by decide +kernel, ⟨tyX12, tyX12_ok⟩, nmX12⟩
theorem pf_X12_init_117 : PF RX12 wsX12_init 117 12 35 "NineMowersModel" (.array .int) := by
  show _ ∧ _ ∧ _ ∧ _ ∧ _ ∧ _ ∧ _ ∧ _ ∧ _
  exact ⟨by decide +kernel, fun _ h => List.mem_cons_of_mem _ (List.mem_append_right _ h), List.mem_of_getElem? (i := 41) rfl, rfl, rfl, rfl, by decide +kernel, ⟨tyX12, tyX12_ok⟩, nmX12⟩
theorem pf_X12_init_120 : PF RX12 wsX12_init 120 12 36 "NineMowersModel" (.array .int) := by
  show _ ∧ _ ∧ _ ∧ _ ∧ _ ∧ _ ∧ _ ∧ _ ∧ _
  exact ⟨by decide +kernel, fun _ h => List.mem_cons_of_mem _ (List.mem_append_right _ h), List.mem_of_getElem? (i := 42) rfl, rfl, rfl, rfl, by decide +kernel, ⟨tyX12, tyX12_ok⟩, nmX12⟩
theorem pf_X12_init_123 : PF RX12 wsX12_init 123 12 37 "NineMowersModel" (.array .int) := by
  show _ ∧ _ ∧ _ ∧ _ ∧ _ ∧ _ ∧ _ ∧ _ ∧ _
  exact ⟨by decide +kernel, fun _ h => List.mem_cons_of_mem _ (List.mem_append_right _ h), List.mem_of_getElem? (i := 43) rfl, rfl, rfl, rfl, by decide +kernel, ⟨tyX12, tyX12_ok⟩, nmX12⟩
theorem pf_X12_init_126 : PF RX12 wsX12_init 126 12 38 "NineMowersModel" (.array .int) := by
  show _ ∧ _ ∧ _ ∧ _ ∧ _ ∧ _ ∧ _ ∧ _ ∧ _
  exact ⟨by decide +kernel, fun _ h => List.mem_cons_of_mem _ (List.mem_append_right _ h), List.mem_of_getElem? (i := 44) rfl, rfl, rfl, rfl, by decide +kernel, ⟨tyX12, tyX12_ok⟩, nmX12⟩
theorem pf_X12_init_129 : PF RX12 wsX12_init 129 12 39 "NineMowersModel" (.array .int) := by
  show _ ∧ _ ∧ _ ∧ _ ∧ _ ∧ _ ∧ _ ∧ _ ∧ _
  exact ⟨by decide +kernel, fun _ h => List.mem_cons_of_mem _ (List.mem_append_right _ h), List.mem_of_getElem? (i := 45) rfl, rfl, rfl, rfl, by decide +kernel, ⟨tyX12, tyX12_ok⟩, nmX12⟩
theorem pf_X12_init_132 : PF RX12 wsX12_init 132 12 40 "NineMowersModel" (.array .int) := by
  show _ ∧ _ ∧ _ ∧ _ ∧ _ ∧ _ ∧ _ ∧ _ ∧ _
  exact ⟨by decide +kernel, fun _ h => List.mem_cons_of_mem _ (List.mem_append_right _ h), List.mem_of_getElem? (i := 46) rfl, rfl, rfl, rfl, by decide +kernel, ⟨tyX12, tyX12_ok⟩, nmX12⟩
theorem pa_X12_init_135 : PA RX12 wsX12_init 135 12 41 "NineMowersModel" .int := by
  show _ ∧ _ ∧ _ ∧ _ ∧ _ ∧ _ ∧ _ ∧ _
  exact ⟨by decide +kernel, fun _ h => List.mem_cons_of_mem _ (List.mem_append_right _ h), List.mem_of_getElem? (i := 47) rfl, rfl, rfl, by decide +kernel, ⟨tyX12, tyX12_ok⟩, nmX12⟩
theorem pf_X12_init_138 : PF RX12 wsX12_init 138 12 42 "NineMowersModel" (.array .int) := by
  show _ ∧ _ ∧ _ ∧ _ ∧ _ ∧ _ ∧ _ ∧ _ ∧ _
  exact ⟨by decide +kernel, fun _ h => List.mem_cons_of_mem _ (List.mem_append_right _ h), List.mem_of_getElem? (i := 48) rfl, rfl, rfl, rfl, by decide +kernel, ⟨tyX12, tyX12_ok⟩, nmX12⟩
theorem pf_X12_init_141 : PF RX12 wsX12_init 141 12 43 "NineMowersModel" (.array .int) := by
  show _ ∧ _ ∧ _ ∧ _ ∧ _ ∧ _ ∧ _ ∧ _ ∧ _
  exact ⟨by decide +kernel, fun _ h => List.mem_cons_of_mem _ (List.mem_append_right _ h), List.mem_of_getElem? (i := 49) rfl, rfl, rfl, rfl, by decide +kernel, ⟨tyX12, tyX12_ok⟩, nmX12⟩
theorem pf_X12_init_144 : PF RX12 wsX12_init 144 12 44 "NineMowersModel" (.array .int) := by
  show _ ∧ _ ∧ _ ∧ _ ∧ _ ∧ _ ∧ _ ∧ _ ∧ _
  exact ⟨by decide +kernel, fun _ h => List.mem_cons_of_mem _ (List.mem_append_right _ h), List.mem_of_getElem? (i := 50) rfl, rfl, rfl, rfl, by decide +kernel, ⟨tyX12, tyX12_ok⟩, nmX12⟩
theorem pa_X12_init_147 : PA RX12 wsX12_init 147 12 45 "NineMowersModel" .int := by
  show _ ∧ _ ∧ _ ∧ _ ∧ _ ∧ _ ∧ _ ∧ _
  exact ⟨by decide +kernel, fun _ h => List.mem_cons_of_mem _ (List.mem_append_right _ h), List.mem_of_getElem? (i := 51) rfl, rfl, rfl, by decide +kernel, ⟨tyX12, tyX12_ok⟩, nmX12⟩
theorem pa_X12_init_150 : PA RX12 wsX12_init 150 12 46 "NineMowersModel" .int := by
  show _ ∧ _ ∧ _ ∧ _ ∧ _ ∧ _ ∧ _ ∧ _
  exact ⟨by decide +kernel, fun _ h => List.mem_cons_of_mem _ (List.mem_append_right _ h), List.mem_of_getElem? (i := 52) rfl, rfl, rfl, by decide +kernel, ⟨tyX12, tyX12_ok⟩, nmX12⟩
theorem pf_X12_init_153 : PF RX12 wsX12_init 153 12 47 "NineMowersModel" (.array .int) := by
  show _ ∧ _ ∧ _ ∧ _ ∧ _ ∧ _ ∧ _ ∧ _ ∧ _
  exact ⟨by decide +kernel, fun _ h => List.mem_cons_of_mem _ (List.mem_append_right _ h), List.mem_of_getElem? (i := 53) rfl, rfl, rfl, rfl, by decide +kernel, ⟨tyX12, tyX12_ok⟩, nmX12⟩
theorem pf_X12_init_156 : PF RX12 wsX12_init 156 12 48 "NineMowersModel" (.array .int) := by
  show _ ∧ _ ∧ _ ∧ _ ∧ _ ∧ _ ∧ _ ∧ _ ∧ _
  exact ⟨by decide +kernel, fun _ h => List.mem_cons_of_mem _ (List.mem_append_right _ h), List.mem_of_getElem? (i := 54) rfl, rfl, rfl, rfl, by decide +kernel, ⟨tyX12, tyX12_ok⟩, nmX12⟩
theorem pa_X12_init_159 : PA RX12 wsX12_init 159 12 49 "NineMowersModel" .boolean := by
  show _ ∧ _ ∧ _ ∧ _ ∧ _ ∧ _ ∧ _ ∧ _
  exact ⟨by decide +kernel, fun _ h => List.mem_cons_of_mem _ (List.mem_append_right _ h), List.mem_of_getElem? (i := 55) rfl, rfl, rfl, by decide +kernel, ⟨tyX12, tyX12_ok⟩, nmX12⟩
theorem pa_X12_init_163 : PA RX12 wsX12_init 163 12 50 "NineMowersModel" .int := by
  show _ ∧ _ ∧ _ ∧ _ ∧ _ ∧ _ ∧ _ ∧ _
  exact ⟨by decide +kernel, fun _ h => List.mem_cons_of_mem _ (List.mem_append_right _ h), List.mem_of_getElem? (i := 56) rfl, rfl, rfl, by decide +kernel, ⟨tyX12, tyX12_ok⟩, nmX12⟩
theorem pa_X12_init_166 : PA RX12 wsX12_init 166 12 51 "NineMowersModel" .int := by
  show _ ∧ _ ∧ _ ∧ _ ∧ _ ∧ _ ∧ _ ∧ _
  exact ⟨by decide +kernel, fun _ h => List.mem_cons_of_mem _ (List.mem_append_right _ h), List.mem_of_getElem? (i := 57) rfl, rfl, rfl, by decide +kernel, ⟨tyX12, tyX12_ok⟩, nmX12⟩
theorem pa_X12_init_169 : PA RX12 wsX12_init 169 12 52 "NineMowersModel" .int := by
  show _ ∧ _ ∧ _ ∧ _ ∧ _ ∧ _ ∧ _ ∧ _
  exact ⟨by decide +kernel, fun _ h => List.mem_cons_of_mem _ (List.mem_append_right _ h), List.mem_of_getElem? (i := 58) rfl, rfl, rfl, by decide +kernel, ⟨tyX12, tyX12_ok⟩, nmX12⟩
theorem pa_X12_init_172 : PA RX12 wsX12_init 172 12 53 "NineMowersModel" .int := by
  show _ ∧ _ ∧ _ ∧ _ ∧ _ ∧ _ ∧ _ ∧ _
  exact ⟨by decide +kernel, fun _ h => List.mem_cons_of_mem _ (List.mem_append_right _ h), List.mem_of_getElem? (i := 59) rfl, rfl, rfl, by decide +kernel, ⟨tyX12, tyX12_ok⟩, nmX12⟩
theorem pa_X12_init_175 : PA RX12 wsX12_init 175 12 54 "NineMowersModel" .int := by
  show _ ∧ _ ∧ _ ∧ _ ∧ _ ∧ _ ∧ _ ∧ _
  exact ⟨by decide +kernel, fun _ h => List.mem_cons_of_mem _ (List.mem_append_right _ h), List.mem_of_getElem? (i := 60) rfl, rfl, rfl, by decide +kernel, ⟨tyX12, tyX12_ok⟩, nmX12⟩
theorem pa_X12_init_178 : PA RX12 wsX12_init 178 12 55 "NineMowersModel" .int := by
  show _ ∧ _ ∧ _ ∧ _ ∧ _ ∧ _ ∧ _ ∧ _
  exact ⟨by decide +kernel, fun _ h => List.mem_cons_of_mem _ (List.mem_append_right _ h), List.mem_of_getElem? (i := 61) rfl, rfl, rfl, by decide +kernel, ⟨tyX12, tyX12_ok⟩, nmX12⟩
theorem pf_X12_init_181 : PF RX12 wsX12_init 181 12 56 "NineMowersModel" (.array .int) := by
  show _ ∧ _ ∧ _ ∧ _ ∧ _ ∧ _ ∧ _ ∧ _ ∧ _
  exact ⟨by decide +kernel, fun _ h => List.mem_cons_of_mem _ (List.mem_append_right _ h), List.mem_of_getElem? (i := 62) rfl, rfl, rfl, rfl, by decide +kernel, ⟨tyX12, tyX12_ok⟩, nmX12⟩
theorem pf_X12_init_184 : PF RX12 wsX12_init 184 12 57 "NineMowersModel" (.array .int) := by
  show _ ∧ _ ∧ _ ∧ _ ∧ _ ∧ _ ∧ _ ∧ _ ∧ _
  exact ⟨by decide +kernel, fun _ h => List.mem_cons_of_mem _ (List.mem_append_right _ h), List.mem_of_getElem? (i := 63) rfl, rfl, rfl, rfl, by decide +kernel, ⟨tyX12, tyX12_ok⟩, nmX12⟩
theorem pf_X12_init_187 : PF RX12 wsX12_init 187 12 58 "NineMowersModel" (.array .int) := by
  show _ ∧ _ ∧ _ ∧ _ ∧ _ ∧ _ ∧ _ ∧ _ ∧ _
  exact ⟨by decide +kernel, fun _ h => List.mem_cons_of_mem _ (List.mem_append_right _ h), List.mem_of_getElem? (i := 64) rfl, rfl, rfl, rfl, by decide +kernel, ⟨tyX12, tyX12_ok⟩, nmX12⟩
theorem pf_X12_init_190 : PF RX12 wsX12_init 190 12 59 "NineMowersModel" (.array .int) := by
  show _ ∧ _ ∧ _ ∧ _ ∧ _ ∧ _ ∧ _ ∧ _ ∧ _
  exact ⟨by decide +kernel, fun _ h => List.mem_cons_of_mem _ (List.mem_append_right _ h), List.mem_of_getElem? (i := 65) rfl, rfl, rfl, rfl, by decide +kernel, ⟨tyX12, tyX12_ok⟩, nmX12⟩
theorem pf_X12_init_193 : PF RX12 wsX12_init 193 12 60 "NineMowersModel" (.array .int) := by
  show _ ∧ _ ∧ _ ∧ _ ∧ _ ∧ _ ∧ _ ∧ _ ∧ _
  exact ⟨by decide +kernel, fun _ h => List.mem_cons_of_mem _ (List.mem_append_right _ h), List.mem_of_getElem? (i := 66) rfl, rfl, rfl, rfl, by decide +kernel, ⟨tyX12, tyX12_ok⟩, nmX12⟩
theorem pf_X12_init_196 : PF RX12 wsX12_init 196 12 61 "NineMowersModel" (.array .int) := by
  show _ ∧ _ ∧ _ ∧ _ ∧ _ ∧ _ ∧ _ ∧ _ ∧ _
  exact ⟨by decide +kernel, fun _ h => List.mem_cons_of_mem _ (List.mem_append_right _ h), List.mem_of_getElem? (i := 67) rfl, rfl, rfl, rfl, by decide +kernel, ⟨tyX12, tyX12_ok⟩, nmX12⟩
theorem pf_X12_init_199 : PF RX12 wsX12_init 199 12 62 "NineMowersModel" (.array .int) := by
  show _ ∧ _ ∧ _ ∧ _ ∧ _ ∧ _ ∧ _ ∧ _ ∧ _
  exact ⟨by decide +kernel, fun _ h => List.mem_cons_of_mem _ (List.mem_append_right _ h), List.mem_of_getElem? (i := 68) rfl, rfl, rfl, rfl, by decide +kernel, ⟨tyX12, tyX12_ok⟩, nmX12⟩
theorem pf_X12_init_202 : PF RX12 wsX12_init 202 12 63 "NineMowersModel" (.array .int) := by
  show _ ∧ _ ∧ _ ∧ _ ∧ _ ∧ _ ∧ _ ∧ _ ∧ _
  exact ⟨by decide +kernel, fun _ h => List.mem_cons_of_mem _ (List.mem_append_right _ h), List.mem_of_getElem? (i := 69) rfl, rfl, rfl, rfl, by decide +kernel, ⟨tyX12, tyX12_ok⟩, nmX12⟩
theorem pf_X12_init_205 : PF RX12 wsX12_init 205 12 64 "NineMowersModel" (.array .int) := by
  show _ ∧ _ ∧ _ ∧ _ ∧ _ ∧ _ ∧ _ ∧ _ ∧ _
  exact ⟨by decide +kernel, fun _ h => List.mem_cons_of_mem _ (List.mem_append_right _ h), List.mem_of_getElem? (i := 70) rfl, rfl, rfl, rfl, by decide +kernel, ⟨tyX12, tyX12_ok⟩, nmX12⟩
theorem pf_X12_init_208 : PF RX12 wsX12_init 208 12 65 "NineMowersModel" (.array .int) := by
  show _ ∧ _ ∧ _ ∧ _ ∧ _ ∧ _ ∧ _ ∧ _ ∧ _
  exact ⟨by decide +kernel, fun _ h => List.mem_cons_of_mem _ (List.mem_append_right _ h), List.mem_of_getElem? (i := 71) rfl, rfl, rfl, rfl, by decide +kernel, ⟨tyX12, tyX12_ok⟩, nmX12⟩
theorem pf_X12_init_211 : PF RX12 wsX12_init 211 12 66 "NineMowersModel" (.array .int) := by
  show _ ∧ _ ∧ _ ∧ _ ∧ _ ∧ _ ∧ _ ∧ _ ∧ _
  exact ⟨by decide +kernel, fun _ h => List.mem_cons_of_mem _ (List.mem_append_right _ h), List.mem_of_getElem? (i := 72) rfl, rfl, rfl, rfl, by decide +kernel, ⟨tyX12, tyX12_ok⟩, nmX12⟩
theorem pf_X12_init_214 : PF RX12 wsX12_init 214 12 67 "NineMowersModel" (.array .int) := by
  show _ ∧ _ ∧ _ ∧ _ ∧ _ ∧ _ ∧ _ ∧ _ ∧ _
  exact ⟨by decide +kernel, fun _ h => List.mem_cons_of_mem _ (List.mem_append_right _ h), List.mem_of_getElem? (i := 73) rfl, rfl, rfl, rfl, by decide +kernel, ⟨tyX12, tyX12_ok⟩, nmX12⟩
theorem pf_X12_init_217 : PF RX12 wsX12_init 217 12 68 "NineMowersModel" (.array .int) := by
  show _ ∧ _ ∧ _ ∧ _ ∧ _ ∧ _ ∧ _ ∧ _ ∧ _
  exact ⟨by decide +kernel, fun _ h => List.mem_cons_of_mem _ (List.mem_append_right _ h), List.mem_of_getElem? (i := 74) rfl, rfl, rfl, rfl, by decide +kernel, ⟨tyX12, tyX12_ok⟩, nmX12⟩
theorem pa_X12_init_220 : PA RX12 wsX12_init 220 12 69 "NineMowersModel" .int := by
  show _ ∧ _ ∧ _ ∧ _ ∧ _ ∧ _ ∧ _ ∧ _
  exact ⟨by decide +kernel, fun _ h => List.mem_cons_of_mem _ (List.mem_append_right _ h), List.mem_of_getElem? (i := 75) rfl, rfl, rfl, by decide +kernel, ⟨tyX12, tyX12_ok⟩, nmX12⟩
theorem pf_X12_init_223 : PF RX12 wsX12_init 223 12 70 "NineMowersModel" (.array .int) := by
  show _ ∧ _ ∧ _ ∧ _ ∧ _ ∧ _ ∧ _ ∧ _ ∧ _
  exact ⟨by decide +kernel, fun _ h => List.mem_cons_of_mem _ (List.mem_append_right _ h), List.mem_of_getElem? (i := 76) rfl, rfl, rfl, rfl, by decide +kernel, ⟨tyX12, tyX12_ok⟩, nmX12⟩
theorem pf_X12_init_226 : PF RX12 wsX12_init 226 12 71 "NineMowersModel" (.array .int) := by
  show _ ∧ _ ∧ _ ∧ _ ∧ _ ∧ _ ∧ _ ∧ _ ∧ _
  exact ⟨by decide +kernel, fun _ h => List.mem_cons_of_mem _ (List.mem_append_right _ h), List.mem_of_getElem? (i := 77) rfl, rfl, rfl, rfl, by decide +kernel, ⟨tyX12, tyX12_ok⟩, nmX12⟩
theorem pf_X12_init_229 : PF RX12 wsX12_init 229 12 72 "NineMowersModel" (.array .int) := by
  show _ ∧ _ ∧ _ ∧ _ ∧ _ ∧ _ ∧ _ ∧ _ ∧ _
  exact ⟨by decide +kernel, fun _ h => List.mem_cons_of_mem _ (List.mem_append_right _ h), List.mem_of_getElem? (i := 78) rfl, rfl, rfl, rfl, by decide +kernel, ⟨tyX12, tyX12_ok⟩, nmX12⟩
theorem pf_X12_init_232 : PF RX12 wsX12_init 232 12 73 "NineMowersModel" (.array .long) := by
  show _ ∧ _ ∧ _ ∧ _ ∧ _ ∧ _ ∧ _ ∧ _ ∧ _
  exact ⟨by decide +kernel, fun _ h => List.mem_cons_of_mem _ (List.mem_append_right _ h), List.mem_of_getElem? (i := 80) rfl, rfl, rfl, rfl, by decide +kernel, ⟨tyX12, tyX12_ok⟩, nmX12⟩
theorem pf_X12_init_236 : PF RX12 wsX12_init 236 12 74 "NineMowersModel" (.array .long) := by
  show _ ∧ _ ∧ _ ∧ _ ∧ _ ∧ _ ∧ _ ∧ _ ∧ _
  exact ⟨by decide +kernel, fun _ h => List.mem_cons_of_mem _ (List.mem_append_right _ h), List.mem_of_getElem? (i := 81) rfl, rfl, rfl, rfl, by decide +kernel, ⟨tyX12, tyX12_ok⟩, nmX12⟩
set_option maxRecDepth 100000 in
set_option maxHeartbeats 8000000 in
theorem k_X12_init {l : Launch} {V : Vx} {h : Nat} {ω0 : RWd} (hU : UPV V) (hm : h ∈ ω0.1) (c0 : ω0.2 h = .inr (12, [.int 0, .int 0, .int 0, .null, .null, .null, .null, .null, .null, .null, .null, .int 0, .int 0, .int 0, .int 0, .int 0, .null, .null, .null, .null, .null, .null, .null, .null, .int 0, .int 0, .int 0, .null, .int 0, .null, .int 0, .null, .null, .int 0, .null, .null, .null, .null, .null, .null, .null, .int 0, .null, .null, .null, .int 0, .int 0, .null, .null, .int 0, .int 0, .int 0, .int 0, .int 0, .int 0, .int 0, .null, .null, .null, .null, .null, .null, .null, .null, .null, .null, .null, .null, .null, .int 0, .null, .null, .null, .null, .null])) : Kr l V yX12_init wsX12_init (rmr 1 50 (1876)) 50 (1876) [.ref h] ω0 (QRV V (MB V ω0 h)) := by
  refine Kr_of (by decide +kernel) rfl rfl (Nat.le_of_ble_eq_true rfl) (fun M hl hV hN C hI => ?_)
  subst hl
  subst hV
  replace hI := hI rfl
  have b0 := BT_0 hm
  show PR M 0 [(0, .ref h)] [] ω0 (0, 0)
  refine Z_aload_n C dX12_init_0 0 rfl ?_
  refine Z_objInit C (List.mem_of_getElem? (i := 1) rfl) (List.mem_of_getElem? (i := 2) rfl) (List.mem_of_getElem? (i := 3) rfl) (Nat.le_of_ble_eq_true rfl) (Nat.le_of_ble_eq_true rfl) dX12_init_1 ?_
  refine Z_aload_n C dX12_init_4 0 rfl ?_
  refine Z_iconst C dX12_init_5 (v := (0 : Int32)) (by decide +kernel) ?_
  refine Y_put C pa_X12_init_7 b0 c0 rfl rfl (Nat.le_of_ble_eq_true rfl) dX12_init_6 (fun ω1 bZ cZ => ?_)
  have b2 := bZ
  clear bZ 
  have c3 : ω1.2 h = .inr (12, [.int (0 : Int32), .int 0, .int 0, .null, .null, .null, .null, .null, .null, .null, .null, .int 0, .int 0, .int 0, .int 0, .int 0, .null, .null, .null, .null, .null, .null, .null, .null, .int 0, .int 0, .int 0, .null, .int 0, .null, .int 0, .null, .null, .int 0, .null, .null, .null, .null, .null, .null, .null, .int 0, .null, .null, .null, .int 0, .int 0, .null, .null, .int 0, .int 0, .int 0, .int 0, .int 0, .int 0, .int 0, .null, .null, .null, .null, .null, .null, .null, .null, .null, .null, .null, .null, .null, .int 0, .null, .null, .null, .null, .null]) := cZ
  clear cZ
  refine Z_aload_n C dX12_init_9 0 rfl ?_
  refine Z_iconst C dX12_init_10 (v := (0 : Int32)) (by decide +kernel) ?_
  refine Y_put C pa_X12_init_13 b2 c3 rfl rfl (Nat.le_of_ble_eq_true rfl) dX12_init_11 (fun ω4 bZ cZ => ?_)
  have b5 := bZ
  clear bZ b2
  have c6 : ω4.2 h = .inr (12, [.int (0 : Int32), .int (0 : Int32), .int 0, .null, .null, .null, .null, .null, .null, .null, .null, .int 0, .int 0, .int 0, .int 0, .int 0, .null, .null, .null, .null, .null, .null, .null, .null, .int 0, .int 0, .int 0, .null, .int 0, .null, .int 0, .null, .null, .int 0, .null, .null, .null, .null, .null, .null, .null, .int 0, .null, .null, .null, .int 0, .int 0, .null, .null, .int 0, .int 0, .int 0, .int 0, .int 0, .int 0, .int 0, .null, .null, .null, .null, .null, .null, .null, .null, .null, .null, .null, .null, .null, .int 0, .null, .null, .null, .null, .null]) := cZ
  clear cZ
  refine Z_aload_n C dX12_init_14 0 rfl ?_
  refine Z_iconst C dX12_init_15 (v := (0 : Int32)) (by decide +kernel) ?_
  refine Y_put C pa_X12_init_16 b5 c6 rfl rfl (Nat.le_of_ble_eq_true rfl) dX12_init_16 (fun ω7 bZ cZ => ?_)
  have b8 := bZ
  clear bZ b5
  have c9 : ω7.2 h = .inr (12, [.int (0 : Int32), .int (0 : Int32), .int (0 : Int32), .null, .null, .null, .null, .null, .null, .null, .null, .int 0, .int 0, .int 0, .int 0, .int 0, .null, .null, .null, .null, .null, .null, .null, .null, .int 0, .int 0, .int 0, .null, .int 0, .null, .int 0, .null, .null, .int 0, .null, .null, .null, .null, .null, .null, .null, .int 0, .null, .null, .null, .int 0, .int 0, .null, .null, .int 0, .int 0, .int 0, .int 0, .int 0, .int 0, .int 0, .null, .null, .null, .null, .null, .null, .null, .null, .null, .null, .null, .null, .null, .int 0, .null, .null, .null, .null, .null]) := cZ
  clear cZ
  refine Z_aload_n C dX12_init_19 0 rfl ?_
  refine Z_bipush C dX12_init_20 (v := (6 : Int32)) (by decide +kernel) ?_
  refine Y_newa (t := 0) (a0 := (6, .inl (fun _ => 0))) C hU b8 (List.mem_of_getElem? (i := 7) rfl) rfl rfl (fun _ _ q => q) (fun _ => rfl) (by decide +kernel) rfl (by decide +kernel) (Nat.le_of_ble_eq_true rfl) (Nat.le_of_ble_eq_true rfl) dX12_init_22 (fun q10 ω11 bZ eZ => ?_)
  have b12 := bZ
  clear bZ b8
  have cZ := eZ.trans c9
  have c13 := cZ
  clear cZ eZ
  show PR M 24 [(0, .ref h)] [.ref q10, .ref h] ω11 (1, 6)
  refine Y_putF C hI pf_X12_init_19 b12 c13 rfl rfl (Nat.le_of_ble_eq_true rfl) dX12_init_24 (fun ω14 bZ cZ => ?_)
  have b15 : BT ω0 ω14 h [(q10, .inl (vC (mV M) 0, (6, .inl (fun _ => 0))))] := bZ
  clear bZ b12
  have c16 : ω14.2 h = .inr (12, [.int (0 : Int32), .int (0 : Int32), .int (0 : Int32), .ref q10, .null, .null, .null, .null, .null, .null, .null, .int 0, .int 0, .int 0, .int 0, .int 0, .null, .null, .null, .null, .null, .null, .null, .null, .int 0, .int 0, .int 0, .null, .int 0, .null, .int 0, .null, .null, .int 0, .null, .null, .null, .null, .null, .null, .null, .int 0, .null, .null, .null, .int 0, .int 0, .null, .null, .int 0, .int 0, .int 0, .int 0, .int 0, .int 0, .int 0, .null, .null, .null, .null, .null, .null, .null, .null, .null, .null, .null, .null, .null, .int 0, .null, .null, .null, .null, .null]) := cZ
  clear cZ
  refine Z_aload_n C dX12_init_27 0 rfl ?_
  refine Z_bipush C dX12_init_28 (v := (6 : Int32)) (by decide +kernel) ?_
  refine Y_newa (t := 0) (a0 := (6, .inl (fun _ => 0))) C hU b15 (List.mem_of_getElem? (i := 7) rfl) rfl rfl (fun _ _ q => q) (fun _ => rfl) (by decide +kernel) rfl (by decide +kernel) (Nat.le_of_ble_eq_true rfl) (Nat.le_of_ble_eq_true rfl) dX12_init_30 (fun q17 ω18 bZ eZ => ?_)
  have b19 := bZ
  clear bZ b15
  have cZ := eZ.trans c16
  have c20 := cZ
  clear cZ eZ
  show PR M 32 [(0, .ref h)] [.ref q17, .ref h] ω18 (2, 12)
  refine Y_putF C hI pf_X12_init_23 b19 c20 rfl rfl (Nat.le_of_ble_eq_true rfl) dX12_init_32 (fun ω21 bZ cZ => ?_)
  have b22 := bZ
  clear bZ b19
  have c23 : ω21.2 h = .inr (12, [.int (0 : Int32), .int (0 : Int32), .int (0 : Int32), .ref q10, .ref q17, .null, .null, .null, .null, .null, .null, .int 0, .int 0, .int 0, .int 0, .int 0, .null, .null, .null, .null, .null, .null, .null, .null, .int 0, .int 0, .int 0, .null, .int 0, .null, .int 0, .null, .null, .int 0, .null, .null, .null, .null, .null, .null, .null, .int 0, .null, .null, .null, .int 0, .int 0, .null, .null, .int 0, .int 0, .int 0, .int 0, .int 0, .int 0, .int 0, .null, .null, .null, .null, .null, .null, .null, .null, .null, .null, .null, .null, .null, .int 0, .null, .null, .null, .null, .null]) := cZ
  clear cZ
  refine Z_aload_n C dX12_init_35 0 rfl ?_
  refine Z_bipush C dX12_init_36 (v := (6 : Int32)) (by decide +kernel) ?_
  refine Y_newa (t := 0) (a0 := (6, .inl (fun _ => 0))) C hU b22 (List.mem_of_getElem? (i := 7) rfl) rfl rfl (fun _ _ q => q) (fun _ => rfl) (by decide +kernel) rfl (by decide +kernel) (Nat.le_of_ble_eq_true rfl) (Nat.le_of_ble_eq_true rfl) dX12_init_38 (fun q24 ω25 bZ eZ => ?_)
  have b26 := bZ
  clear bZ b22
  have cZ := eZ.trans c23
  have c27 := cZ
  clear cZ eZ
  show PR M 40 [(0, .ref h)] [.ref q24, .ref h] ω25 (3, 18)
  refine Y_putF C hI pf_X12_init_26 b26 c27 rfl rfl (Nat.le_of_ble_eq_true rfl) dX12_init_40 (fun ω28 bZ cZ => ?_)
  have b29 := bZ
  clear bZ b26
  have c30 : ω28.2 h = .inr (12, [.int (0 : Int32), .int (0 : Int32), .int (0 : Int32), .ref q10, .ref q17, .ref q24, .null, .null, .null, .null, .null, .int 0, .int 0, .int 0, .int 0, .int 0, .null, .null, .null, .null, .null, .null, .null, .null, .int 0, .int 0, .int 0, .null, .int 0, .null, .int 0, .null, .null, .int 0, .null, .null, .null, .null, .null, .null, .null, .int 0, .null, .null, .null, .int 0, .int 0, .null, .null, .int 0, .int 0, .int 0, .int 0, .int 0, .int 0, .int 0, .null, .null, .null, .null, .null, .null, .null, .null, .null, .null, .null, .null, .null, .int 0, .null, .null, .null, .null, .null]) := cZ
  clear cZ
  refine Z_aload_n C dX12_init_43 0 rfl ?_
  refine Z_bipush C dX12_init_44 (v := (6 : Int32)) (by decide +kernel) ?_
  refine Y_newa (t := 0) (a0 := (6, .inl (fun _ => 0))) C hU b29 (List.mem_of_getElem? (i := 7) rfl) rfl rfl (fun _ _ q => q) (fun _ => rfl) (by decide +kernel) rfl (by decide +kernel) (Nat.le_of_ble_eq_true rfl) (Nat.le_of_ble_eq_true rfl) dX12_init_46 (fun q31 ω32 bZ eZ => ?_)
  have b33 : BT ω0 ω32 h [(q10, .inl (vC (mV M) 0, (6, .inl (fun _ => 0)))), (q17, .inl (vC (mV M) 0, (6, .inl (fun _ => 0)))), (q24, .inl (vC (mV M) 0, (6, .inl (fun _ => 0)))), (q31, .inl (vC (mV M) 0, (6, .inl (fun _ => 0))))] := bZ
  clear bZ b29
  have cZ := eZ.trans c30
  have c34 := cZ
  clear cZ eZ
  show PR M 48 [(0, .ref h)] [.ref q31, .ref h] ω32 (4, 24)
  refine Y_putF C hI pf_X12_init_29 b33 c34 rfl rfl (Nat.le_of_ble_eq_true rfl) dX12_init_48 (fun ω35 bZ cZ => ?_)
  have b36 := bZ
  clear bZ b33
  have c37 : ω35.2 h = .inr (12, [.int (0 : Int32), .int (0 : Int32), .int (0 : Int32), .ref q10, .ref q17, .ref q24, .ref q31, .null, .null, .null, .null, .int 0, .int 0, .int 0, .int 0, .int 0, .null, .null, .null, .null, .null, .null, .null, .null, .int 0, .int 0, .int 0, .null, .int 0, .null, .int 0, .null, .null, .int 0, .null, .null, .null, .null, .null, .null, .null, .int 0, .null, .null, .null, .int 0, .int 0, .null, .null, .int 0, .int 0, .int 0, .int 0, .int 0, .int 0, .int 0, .null, .null, .null, .null, .null, .null, .null, .null, .null, .null, .null, .null, .null, .int 0, .null, .null, .null, .null, .null]) := cZ
  clear cZ
  refine Z_aload_n C dX12_init_51 0 rfl ?_
  refine Z_bipush C dX12_init_52 (v := (6 : Int32)) (by decide +kernel) ?_
  refine Y_newa (t := 0) (a0 := (6, .inl (fun _ => 0))) C hU b36 (List.mem_of_getElem? (i := 7) rfl) rfl rfl (fun _ _ q => q) (fun _ => rfl) (by decide +kernel) rfl (by decide +kernel) (Nat.le_of_ble_eq_true rfl) (Nat.le_of_ble_eq_true rfl) dX12_init_54 (fun q38 ω39 bZ eZ => ?_)
  have b40 := bZ
  clear bZ b36
  have cZ := eZ.trans c37
  have c41 := cZ
  clear cZ eZ
  show PR M 56 [(0, .ref h)] [.ref q38, .ref h] ω39 (5, 30)
  refine Y_putF C hI pf_X12_init_32 b40 c41 rfl rfl (Nat.le_of_ble_eq_true rfl) dX12_init_56 (fun ω42 bZ cZ => ?_)
  have b43 := bZ
  clear bZ b40
  have c44 : ω42.2 h = .inr (12, [.int (0 : Int32), .int (0 : Int32), .int (0 : Int32), .ref q10, .ref q17, .ref q24, .ref q31, .ref q38, .null, .null, .null, .int 0, .int 0, .int 0, .int 0, .int 0, .null, .null, .null, .null, .null, .null, .null, .null, .int 0, .int 0, .int 0, .null, .int 0, .null, .int 0, .null, .null, .int 0, .null, .null, .null, .null, .null, .null, .null, .int 0, .null, .null, .null, .int 0, .int 0, .null, .null, .int 0, .int 0, .int 0, .int 0, .int 0, .int 0, .int 0, .null, .null, .null, .null, .null, .null, .null, .null, .null, .null, .null, .null, .null, .int 0, .null, .null, .null, .null, .null]) := cZ
  clear cZ
  refine Z_aload_n C dX12_init_59 0 rfl ?_
  refine Z_bipush C dX12_init_60 (v := (6 : Int32)) (by decide +kernel) ?_
  refine Y_newa (t := 0) (a0 := (6, .inl (fun _ => 0))) C hU b43 (List.mem_of_getElem? (i := 7) rfl) rfl rfl (fun _ _ q => q) (fun _ => rfl) (by decide +kernel) rfl (by decide +kernel) (Nat.le_of_ble_eq_true rfl) (Nat.le_of_ble_eq_true rfl) dX12_init_62 (fun q45 ω46 bZ eZ => ?_)
  have b47 := bZ
  clear bZ b43
  have cZ := eZ.trans c44
  have c48 := cZ
  clear cZ eZ
  show PR M 64 [(0, .ref h)] [.ref q45, .ref h] ω46 (6, 36)
  refine Y_putF C hI pf_X12_init_35 b47 c48 rfl rfl (Nat.le_of_ble_eq_true rfl) dX12_init_64 (fun ω49 bZ cZ => ?_)
  have b50 : BT ω0 ω49 h [(q10, .inl (vC (mV M) 0, (6, .inl (fun _ => 0)))), (q17, .inl (vC (mV M) 0, (6, .inl (fun _ => 0)))), (q24, .inl (vC (mV M) 0, (6, .inl (fun _ => 0)))), (q31, .inl (vC (mV M) 0, (6, .inl (fun _ => 0)))), (q38, .inl (vC (mV M) 0, (6, .inl (fun _ => 0)))), (q45, .inl (vC (mV M) 0, (6, .inl (fun _ => 0))))] := bZ
  clear bZ b47
  have c51 : ω49.2 h = .inr (12, [.int (0 : Int32), .int (0 : Int32), .int (0 : Int32), .ref q10, .ref q17, .ref q24, .ref q31, .ref q38, .ref q45, .null, .null, .int 0, .int 0, .int 0, .int 0, .int 0, .null, .null, .null, .null, .null, .null, .null, .null, .int 0, .int 0, .int 0, .null, .int 0, .null, .int 0, .null, .null, .int 0, .null, .null, .null, .null, .null, .null, .null, .int 0, .null, .null, .null, .int 0, .int 0, .null, .null, .int 0, .int 0, .int 0, .int 0, .int 0, .int 0, .int 0, .null, .null, .null, .null, .null, .null, .null, .null, .null, .null, .null, .null, .null, .int 0, .null, .null, .null, .null, .null]) := cZ
  clear cZ
  refine Z_aload_n C dX12_init_67 0 rfl ?_
  refine Z_bipush C dX12_init_68 (v := (24 : Int32)) (by decide +kernel) ?_
  refine Y_newa (t := 0) (a0 := (24, .inl (fun _ => 0))) C hU b50 (List.mem_of_getElem? (i := 7) rfl) rfl rfl (fun _ _ q => q) (fun _ => rfl) (by decide +kernel) rfl (by decide +kernel) (Nat.le_of_ble_eq_true rfl) (Nat.le_of_ble_eq_true rfl) dX12_init_70 (fun q52 ω53 bZ eZ => ?_)
  have b54 := bZ
  clear bZ b50
  have cZ := eZ.trans c51
  have c55 := cZ
  clear cZ eZ
  show PR M 72 [(0, .ref h)] [.ref q52, .ref h] ω53 (7, 60)
  refine Y_putF C hI pf_X12_init_38 b54 c55 rfl rfl (Nat.le_of_ble_eq_true rfl) dX12_init_72 (fun ω56 bZ cZ => ?_)
  have b57 := bZ
  clear bZ b54
  have c58 : ω56.2 h = .inr (12, [.int (0 : Int32), .int (0 : Int32), .int (0 : Int32), .ref q10, .ref q17, .ref q24, .ref q31, .ref q38, .ref q45, .ref q52, .null, .int 0, .int 0, .int 0, .int 0, .int 0, .null, .null, .null, .null, .null, .null, .null, .null, .int 0, .int 0, .int 0, .null, .int 0, .null, .int 0, .null, .null, .int 0, .null, .null, .null, .null, .null, .null, .null, .int 0, .null, .null, .null, .int 0, .int 0, .null, .null, .int 0, .int 0, .int 0, .int 0, .int 0, .int 0, .int 0, .null, .null, .null, .null, .null, .null, .null, .null, .null, .null, .null, .null, .null, .int 0, .null, .null, .null, .null, .null]) := cZ
  clear cZ
  refine Z_aload_n C dX12_init_75 0 rfl ?_
  refine Z_bipush C dX12_init_76 (v := (6 : Int32)) (by decide +kernel) ?_
  refine Y_newa (t := 0) (a0 := (6, .inl (fun _ => 0))) C hU b57 (List.mem_of_getElem? (i := 7) rfl) rfl rfl (fun _ _ q => q) (fun _ => rfl) (by decide +kernel) rfl (by decide +kernel) (Nat.le_of_ble_eq_true rfl) (Nat.le_of_ble_eq_true rfl) dX12_init_78 (fun q59 ω60 bZ eZ => ?_)
  have b61 := bZ
  clear bZ b57
  have cZ := eZ.trans c58
  have c62 := cZ
  clear cZ eZ
  show PR M 80 [(0, .ref h)] [.ref q59, .ref h] ω60 (8, 66)
  refine Y_putF C hI pf_X12_init_41 b61 c62 rfl rfl (Nat.le_of_ble_eq_true rfl) dX12_init_80 (fun ω63 bZ cZ => ?_)
  have b64 := bZ
  clear bZ b61
  have c65 : ω63.2 h = .inr (12, [.int (0 : Int32), .int (0 : Int32), .int (0 : Int32), .ref q10, .ref q17, .ref q24, .ref q31, .ref q38, .ref q45, .ref q52, .ref q59, .int 0, .int 0, .int 0, .int 0, .int 0, .null, .null, .null, .null, .null, .null, .null, .null, .int 0, .int 0, .int 0, .null, .int 0, .null, .int 0, .null, .null, .int 0, .null, .null, .null, .null, .null, .null, .null, .int 0, .null, .null, .null, .int 0, .int 0, .null, .null, .int 0, .int 0, .int 0, .int 0, .int 0, .int 0, .int 0, .null, .null, .null, .null, .null, .null, .null, .null, .null, .null, .null, .null, .null, .int 0, .null, .null, .null, .null, .null]) := cZ
  clear cZ
  refine Z_aload_n C dX12_init_83 0 rfl ?_
  refine Z_iconst C dX12_init_84 (v := (0 : Int32)) (by decide +kernel) ?_
  refine Y_put C pa_X12_init_44 b64 c65 rfl rfl (Nat.le_of_ble_eq_true rfl) dX12_init_85 (fun ω66 bZ cZ => ?_)
  have b67 : BT ω0 ω66 h [(q10, .inl (vC (mV M) 0, (6, .inl (fun _ => 0)))), (q17, .inl (vC (mV M) 0, (6, .inl (fun _ => 0)))), (q24, .inl (vC (mV M) 0, (6, .inl (fun _ => 0)))), (q31, .inl (vC (mV M) 0, (6, .inl (fun _ => 0)))), (q38, .inl (vC (mV M) 0, (6, .inl (fun _ => 0)))), (q45, .inl (vC (mV M) 0, (6, .inl (fun _ => 0)))), (q52, .inl (vC (mV M) 0, (24, .inl (fun _ => 0)))), (q59, .inl (vC (mV M) 0, (6, .inl (fun _ => 0))))] := bZ
  clear bZ b64
  have c68 : ω66.2 h = .inr (12, [.int (0 : Int32), .int (0 : Int32), .int (0 : Int32), .ref q10, .ref q17, .ref q24, .ref q31, .ref q38, .ref q45, .ref q52, .ref q59, .int (0 : Int32), .int 0, .int 0, .int 0, .int 0, .null, .null, .null, .null, .null, .null, .null, .null, .int 0, .int 0, .int 0, .null, .int 0, .null, .int 0, .null, .null, .int 0, .null, .null, .null, .null, .null, .null, .null, .int 0, .null, .null, .null, .int 0, .int 0, .null, .null, .int 0, .int 0, .int 0, .int 0, .int 0, .int 0, .int 0, .null, .null, .null, .null, .null, .null, .null, .null, .null, .null, .null, .null, .null, .int 0, .null, .null, .null, .null, .null]) := cZ
  clear cZ
  refine Z_aload_n C dX12_init_88 0 rfl ?_
  refine Z_iconst C dX12_init_89 (v := (-1 : Int32)) (by decide +kernel) ?_
  refine Y_put C pa_X12_init_47 b67 c68 rfl rfl (Nat.le_of_ble_eq_true rfl) dX12_init_90 (fun ω69 bZ cZ => ?_)
  have b70 := bZ
  clear bZ b67
  have c71 : ω69.2 h = .inr (12, [.int (0 : Int32), .int (0 : Int32), .int (0 : Int32), .ref q10, .ref q17, .ref q24, .ref q31, .ref q38, .ref q45, .ref q52, .ref q59, .int (0 : Int32), .int (-1 : Int32), .int 0, .int 0, .int 0, .null, .null, .null, .null, .null, .null, .null, .null, .int 0, .int 0, .int 0, .null, .int 0, .null, .int 0, .null, .null, .int 0, .null, .null, .null, .null, .null, .null, .null, .int 0, .null, .null, .null, .int 0, .int 0, .null, .null, .int 0, .int 0, .int 0, .int 0, .int 0, .int 0, .int 0, .null, .null, .null, .null, .null, .null, .null, .null, .null, .null, .null, .null, .null, .int 0, .null, .null, .null, .null, .null]) := cZ
  clear cZ
  refine Z_aload_n C dX12_init_93 0 rfl ?_
  refine Z_iconst C dX12_init_94 (v := (0 : Int32)) (by decide +kernel) ?_
  refine Y_put C pa_X12_init_50 b70 c71 rfl rfl (Nat.le_of_ble_eq_true rfl) dX12_init_95 (fun ω72 bZ cZ => ?_)
  have b73 := bZ
  clear bZ b70
  have c74 : ω72.2 h = .inr (12, [.int (0 : Int32), .int (0 : Int32), .int (0 : Int32), .ref q10, .ref q17, .ref q24, .ref q31, .ref q38, .ref q45, .ref q52, .ref q59, .int (0 : Int32), .int (-1 : Int32), .int (0 : Int32), .int 0, .int 0, .null, .null, .null, .null, .null, .null, .null, .null, .int 0, .int 0, .int 0, .null, .int 0, .null, .int 0, .null, .null, .int 0, .null, .null, .null, .null, .null, .null, .null, .int 0, .null, .null, .null, .int 0, .int 0, .null, .null, .int 0, .int 0, .int 0, .int 0, .int 0, .int 0, .int 0, .null, .null, .null, .null, .null, .null, .null, .null, .null, .null, .null, .null, .null, .int 0, .null, .null, .null, .null, .null]) := cZ
  clear cZ
  refine Z_aload_n C dX12_init_98 0 rfl ?_
  refine Z_iconst C dX12_init_99 (v := (0 : Int32)) (by decide +kernel) ?_
  refine Y_put C pa_X12_init_53 b73 c74 rfl rfl (Nat.le_of_ble_eq_true rfl) dX12_init_100 (fun ω75 bZ cZ => ?_)
  have b76 := bZ
  clear bZ b73
  have c77 : ω75.2 h = .inr (12, [.int (0 : Int32), .int (0 : Int32), .int (0 : Int32), .ref q10, .ref q17, .ref q24, .ref q31, .ref q38, .ref q45, .ref q52, .ref q59, .int (0 : Int32), .int (-1 : Int32), .int (0 : Int32), .int (0 : Int32), .int 0, .null, .null, .null, .null, .null, .null, .null, .null, .int 0, .int 0, .int 0, .null, .int 0, .null, .int 0, .null, .null, .int 0, .null, .null, .null, .null, .null, .null, .null, .int 0, .null, .null, .null, .int 0, .int 0, .null, .null, .int 0, .int 0, .int 0, .int 0, .int 0, .int 0, .int 0, .null, .null, .null, .null, .null, .null, .null, .null, .null, .null, .null, .null, .null, .int 0, .null, .null, .null, .null, .null]) := cZ
  clear cZ
  refine Z_aload_n C dX12_init_103 0 rfl ?_
  refine Z_iconst C dX12_init_104 (v := (0 : Int32)) (by decide +kernel) ?_
  refine Y_put C pa_X12_init_56 b76 c77 rfl rfl (Nat.le_of_ble_eq_true rfl) dX12_init_105 (fun ω78 bZ cZ => ?_)
  have b79 := bZ
  clear bZ b76
  have c80 : ω78.2 h = .inr (12, [.int (0 : Int32), .int (0 : Int32), .int (0 : Int32), .ref q10, .ref q17, .ref q24, .ref q31, .ref q38, .ref q45, .ref q52, .ref q59, .int (0 : Int32), .int (-1 : Int32), .int (0 : Int32), .int (0 : Int32), .int (0 : Int32), .null, .null, .null, .null, .null, .null, .null, .null, .int 0, .int 0, .int 0, .null, .int 0, .null, .int 0, .null, .null, .int 0, .null, .null, .null, .null, .null, .null, .null, .int 0, .null, .null, .null, .int 0, .int 0, .null, .null, .int 0, .int 0, .int 0, .int 0, .int 0, .int 0, .int 0, .null, .null, .null, .null, .null, .null, .null, .null, .null, .null, .null, .null, .null, .int 0, .null, .null, .null, .null, .null]) := cZ
  clear cZ
  refine Z_aload_n C dX12_init_108 0 rfl ?_
  refine Z_bipush C dX12_init_109 (v := (100 : Int32)) (by decide +kernel) ?_
  refine Y_newa (t := 0) (a0 := (100, .inl (fun _ => 0))) C hU b79 (List.mem_of_getElem? (i := 7) rfl) rfl rfl (fun _ _ q => q) (fun _ => rfl) (by decide +kernel) rfl (by decide +kernel) (Nat.le_of_ble_eq_true rfl) (Nat.le_of_ble_eq_true rfl) dX12_init_111 (fun q81 ω82 bZ eZ => ?_)
  have b83 : BT ω0 ω82 h [(q10, .inl (vC (mV M) 0, (6, .inl (fun _ => 0)))), (q17, .inl (vC (mV M) 0, (6, .inl (fun _ => 0)))), (q24, .inl (vC (mV M) 0, (6, .inl (fun _ => 0)))), (q31, .inl (vC (mV M) 0, (6, .inl (fun _ => 0)))), (q38, .inl (vC (mV M) 0, (6, .inl (fun _ => 0)))), (q45, .inl (vC (mV M) 0, (6, .inl (fun _ => 0)))), (q52, .inl (vC (mV M) 0, (24, .inl (fun _ => 0)))), (q59, .inl (vC (mV M) 0, (6, .inl (fun _ => 0)))), (q81, .inl (vC (mV M) 0, (100, .inl (fun _ => 0))))] := bZ
  clear bZ b79
  have cZ := eZ.trans c80
  have c84 := cZ
  clear cZ eZ
  show PR M 113 [(0, .ref h)] [.ref q81, .ref h] ω82 (9, 166)
  refine Y_putF C hI pf_X12_init_59 b83 c84 rfl rfl (Nat.le_of_ble_eq_true rfl) dX12_init_113 (fun ω85 bZ cZ => ?_)
  have b86 := bZ
  clear bZ b83
  have c87 : ω85.2 h = .inr (12, [.int (0 : Int32), .int (0 : Int32), .int (0 : Int32), .ref q10, .ref q17, .ref q24, .ref q31, .ref q38, .ref q45, .ref q52, .ref q59, .int (0 : Int32), .int (-1 : Int32), .int (0 : Int32), .int (0 : Int32), .int (0 : Int32), .ref q81, .null, .null, .null, .null, .null, .null, .null, .int 0, .int 0, .int 0, .null, .int 0, .null, .int 0, .null, .null, .int 0, .null, .null, .null, .null, .null, .null, .null, .int 0, .null, .null, .null, .int 0, .int 0, .null, .null, .int 0, .int 0, .int 0, .int 0, .int 0, .int 0, .int 0, .null, .null, .null, .null, .null, .null, .null, .null, .null, .null, .null, .null, .null, .int 0, .null, .null, .null, .null, .null]) := cZ
  clear cZ
  refine Z_aload_n C dX12_init_116 0 rfl ?_
  refine Z_bipush C dX12_init_117 (v := (6 : Int32)) (by decide +kernel) ?_
  refine Y_newa (t := 0) (a0 := (6, .inl (fun _ => 0))) C hU b86 (List.mem_of_getElem? (i := 7) rfl) rfl rfl (fun _ _ q => q) (fun _ => rfl) (by decide +kernel) rfl (by decide +kernel) (Nat.le_of_ble_eq_true rfl) (Nat.le_of_ble_eq_true rfl) dX12_init_119 (fun q88 ω89 bZ eZ => ?_)
  have b90 := bZ
  clear bZ b86
  have cZ := eZ.trans c87
  have c91 := cZ
  clear cZ eZ
  show PR M 121 [(0, .ref h)] [.ref q88, .ref h] ω89 (10, 172)
  refine Y_putF C hI pf_X12_init_62 b90 c91 rfl rfl (Nat.le_of_ble_eq_true rfl) dX12_init_121 (fun ω92 bZ cZ => ?_)
  have b93 := bZ
  clear bZ b90
  have c94 : ω92.2 h = .inr (12, [.int (0 : Int32), .int (0 : Int32), .int (0 : Int32), .ref q10, .ref q17, .ref q24, .ref q31, .ref q38, .ref q45, .ref q52, .ref q59, .int (0 : Int32), .int (-1 : Int32), .int (0 : Int32), .int (0 : Int32), .int (0 : Int32), .ref q81, .ref q88, .null, .null, .null, .null, .null, .null, .int 0, .int 0, .int 0, .null, .int 0, .null, .int 0, .null, .null, .int 0, .null, .null, .null, .null, .null, .null, .null, .int 0, .null, .null, .null, .int 0, .int 0, .null, .null, .int 0, .int 0, .int 0, .int 0, .int 0, .int 0, .int 0, .null, .null, .null, .null, .null, .null, .null, .null, .null, .null, .null, .null, .null, .int 0, .null, .null, .null, .null, .null]) := cZ
  clear cZ
  refine Z_aload_n C dX12_init_124 0 rfl ?_
  refine Z_bipush C dX12_init_125 (v := (60 : Int32)) (by decide +kernel) ?_
  refine Y_newa (t := 0) (a0 := (60, .inl (fun _ => 0))) C hU b93 (List.mem_of_getElem? (i := 7) rfl) rfl rfl (fun _ _ q => q) (fun _ => rfl) (by decide +kernel) rfl (by decide +kernel) (Nat.le_of_ble_eq_true rfl) (Nat.le_of_ble_eq_true rfl) dX12_init_127 (fun q95 ω96 bZ eZ => ?_)
  have b97 := bZ
  clear bZ b93
  have cZ := eZ.trans c94
  have c98 := cZ
  clear cZ eZ
  show PR M 129 [(0, .ref h)] [.ref q95, .ref h] ω96 (11, 232)
  refine Y_putF C hI pf_X12_init_65 b97 c98 rfl rfl (Nat.le_of_ble_eq_true rfl) dX12_init_129 (fun ω99 bZ cZ => ?_)
  have b100 : BT ω0 ω99 h [(q10, .inl (vC (mV M) 0, (6, .inl (fun _ => 0)))), (q17, .inl (vC (mV M) 0, (6, .inl (fun _ => 0)))), (q24, .inl (vC (mV M) 0, (6, .inl (fun _ => 0)))), (q31, .inl (vC (mV M) 0, (6, .inl (fun _ => 0)))), (q38, .inl (vC (mV M) 0, (6, .inl (fun _ => 0)))), (q45, .inl (vC (mV M) 0, (6, .inl (fun _ => 0)))), (q52, .inl (vC (mV M) 0, (24, .inl (fun _ => 0)))), (q59, .inl (vC (mV M) 0, (6, .inl (fun _ => 0)))), (q81, .inl (vC (mV M) 0, (100, .inl (fun _ => 0)))), (q88, .inl (vC (mV M) 0, (6, .inl (fun _ => 0)))), (q95, .inl (vC (mV M) 0, (60, .inl (fun _ => 0))))] := bZ
  clear bZ b97
  have c101 : ω99.2 h = .inr (12, [.int (0 : Int32), .int (0 : Int32), .int (0 : Int32), .ref q10, .ref q17, .ref q24, .ref q31, .ref q38, .ref q45, .ref q52, .ref q59, .int (0 : Int32), .int (-1 : Int32), .int (0 : Int32), .int (0 : Int32), .int (0 : Int32), .ref q81, .ref q88, .ref q95, .null, .null, .null, .null, .null, .int 0, .int 0, .int 0, .null, .int 0, .null, .int 0, .null, .null, .int 0, .null, .null, .null, .null, .null, .null, .null, .int 0, .null, .null, .null, .int 0, .int 0, .null, .null, .int 0, .int 0, .int 0, .int 0, .int 0, .int 0, .int 0, .null, .null, .null, .null, .null, .null, .null, .null, .null, .null, .null, .null, .null, .int 0, .null, .null, .null, .null, .null]) := cZ
  clear cZ
  refine Z_aload_n C dX12_init_132 0 rfl ?_
  refine Z_bipush C dX12_init_133 (v := (60 : Int32)) (by decide +kernel) ?_
  refine Y_newa (t := 0) (a0 := (60, .inl (fun _ => 0))) C hU b100 (List.mem_of_getElem? (i := 7) rfl) rfl rfl (fun _ _ q => q) (fun _ => rfl) (by decide +kernel) rfl (by decide +kernel) (Nat.le_of_ble_eq_true rfl) (Nat.le_of_ble_eq_true rfl) dX12_init_135 (fun q102 ω103 bZ eZ => ?_)
  have b104 := bZ
  clear bZ b100
  have cZ := eZ.trans c101
  have c105 := cZ
  clear cZ eZ
  show PR M 137 [(0, .ref h)] [.ref q102, .ref h] ω103 (12, 292)
  refine Y_putF C hI pf_X12_init_68 b104 c105 rfl rfl (Nat.le_of_ble_eq_true rfl) dX12_init_137 (fun ω106 bZ cZ => ?_)
  have b107 := bZ
  clear bZ b104
  have c108 : ω106.2 h = .inr (12, [.int (0 : Int32), .int (0 : Int32), .int (0 : Int32), .ref q10, .ref q17, .ref q24, .ref q31, .ref q38, .ref q45, .ref q52, .ref q59, .int (0 : Int32), .int (-1 : Int32), .int (0 : Int32), .int (0 : Int32), .int (0 : Int32), .ref q81, .ref q88, .ref q95, .ref q102, .null, .null, .null, .null, .int 0, .int 0, .int 0, .null, .int 0, .null, .int 0, .null, .null, .int 0, .null, .null, .null, .null, .null, .null, .null, .int 0, .null, .null, .null, .int 0, .int 0, .null, .null, .int 0, .int 0, .int 0, .int 0, .int 0, .int 0, .int 0, .null, .null, .null, .null, .null, .null, .null, .null, .null, .null, .null, .null, .null, .int 0, .null, .null, .null, .null, .null]) := cZ
  clear cZ
  refine Z_aload_n C dX12_init_140 0 rfl ?_
  refine Z_bipush C dX12_init_141 (v := (60 : Int32)) (by decide +kernel) ?_
  refine Y_newa (t := 0) (a0 := (60, .inl (fun _ => 0))) C hU b107 (List.mem_of_getElem? (i := 7) rfl) rfl rfl (fun _ _ q => q) (fun _ => rfl) (by decide +kernel) rfl (by decide +kernel) (Nat.le_of_ble_eq_true rfl) (Nat.le_of_ble_eq_true rfl) dX12_init_143 (fun q109 ω110 bZ eZ => ?_)
  have b111 := bZ
  clear bZ b107
  have cZ := eZ.trans c108
  have c112 := cZ
  clear cZ eZ
  show PR M 145 [(0, .ref h)] [.ref q109, .ref h] ω110 (13, 352)
  refine Y_putF C hI pf_X12_init_71 b111 c112 rfl rfl (Nat.le_of_ble_eq_true rfl) dX12_init_145 (fun ω113 bZ cZ => ?_)
  have b114 := bZ
  clear bZ b111
  have c115 : ω113.2 h = .inr (12, [.int (0 : Int32), .int (0 : Int32), .int (0 : Int32), .ref q10, .ref q17, .ref q24, .ref q31, .ref q38, .ref q45, .ref q52, .ref q59, .int (0 : Int32), .int (-1 : Int32), .int (0 : Int32), .int (0 : Int32), .int (0 : Int32), .ref q81, .ref q88, .ref q95, .ref q102, .ref q109, .null, .null, .null, .int 0, .int 0, .int 0, .null, .int 0, .null, .int 0, .null, .null, .int 0, .null, .null, .null, .null, .null, .null, .null, .int 0, .null, .null, .null, .int 0, .int 0, .null, .null, .int 0, .int 0, .int 0, .int 0, .int 0, .int 0, .int 0, .null, .null, .null, .null, .null, .null, .null, .null, .null, .null, .null, .null, .null, .int 0, .null, .null, .null, .null, .null]) := cZ
  clear cZ
  refine Z_aload_n C dX12_init_148 0 rfl ?_
  refine Z_bipush C dX12_init_149 (v := (60 : Int32)) (by decide +kernel) ?_
  refine Y_newa (t := 0) (a0 := (60, .inl (fun _ => 0))) C hU b114 (List.mem_of_getElem? (i := 7) rfl) rfl rfl (fun _ _ q => q) (fun _ => rfl) (by decide +kernel) rfl (by decide +kernel) (Nat.le_of_ble_eq_true rfl) (Nat.le_of_ble_eq_true rfl) dX12_init_151 (fun q116 ω117 bZ eZ => ?_)
  have b118 : BT ω0 ω117 h [(q10, .inl (vC (mV M) 0, (6, .inl (fun _ => 0)))), (q17, .inl (vC (mV M) 0, (6, .inl (fun _ => 0)))), (q24, .inl (vC (mV M) 0, (6, .inl (fun _ => 0)))), (q31, .inl (vC (mV M) 0, (6, .inl (fun _ => 0)))), (q38, .inl (vC (mV M) 0, (6, .inl (fun _ => 0)))), (q45, .inl (vC (mV M) 0, (6, .inl (fun _ => 0)))), (q52, .inl (vC (mV M) 0, (24, .inl (fun _ => 0)))), (q59, .inl (vC (mV M) 0, (6, .inl (fun _ => 0)))), (q81, .inl (vC (mV M) 0, (100, .inl (fun _ => 0)))), (q88, .inl (vC (mV M) 0, (6, .inl (fun _ => 0)))), (q95, .inl (vC (mV M) 0, (60, .inl (fun _ => 0)))), (q102, .inl (vC (mV M) 0, (60, .inl (fun _ => 0)))), (q109, .inl (vC (mV M) 0, (60, .inl (fun _ => 0)))), (q116, .inl (vC (mV M) 0, (60, .inl (fun _ => 0))))] := bZ
  clear bZ b114
  have cZ := eZ.trans c115
  have c119 := cZ
  clear cZ eZ
  show PR M 153 [(0, .ref h)] [.ref q116, .ref h] ω117 (14, 412)
  refine Y_putF C hI pf_X12_init_74 b118 c119 rfl rfl (Nat.le_of_ble_eq_true rfl) dX12_init_153 (fun ω120 bZ cZ => ?_)
  have b121 := bZ
  clear bZ b118
  have c122 : ω120.2 h = .inr (12, [.int (0 : Int32), .int (0 : Int32), .int (0 : Int32), .ref q10, .ref q17, .ref q24, .ref q31, .ref q38, .ref q45, .ref q52, .ref q59, .int (0 : Int32), .int (-1 : Int32), .int (0 : Int32), .int (0 : Int32), .int (0 : Int32), .ref q81, .ref q88, .ref q95, .ref q102, .ref q109, .ref q116, .null, .null, .int 0, .int 0, .int 0, .null, .int 0, .null, .int 0, .null, .null, .int 0, .null, .null, .null, .null, .null, .null, .null, .int 0, .null, .null, .null, .int 0, .int 0, .null, .null, .int 0, .int 0, .int 0, .int 0, .int 0, .int 0, .int 0, .null, .null, .null, .null, .null, .null, .null, .null, .null, .null, .null, .null, .null, .int 0, .null, .null, .null, .null, .null]) := cZ
  clear cZ
  refine Z_aload_n C dX12_init_156 0 rfl ?_
  refine Z_sipush C dX12_init_157 (v := (600 : Int32)) (by decide +kernel) ?_
  refine Y_newa (t := 0) (a0 := (600, .inl (fun _ => 0))) C hU b121 (List.mem_of_getElem? (i := 7) rfl) rfl rfl (fun _ _ q => q) (fun _ => rfl) (by decide +kernel) rfl (by decide +kernel) (Nat.le_of_ble_eq_true rfl) (Nat.le_of_ble_eq_true rfl) dX12_init_160 (fun q123 ω124 bZ eZ => ?_)
  have b125 := bZ
  clear bZ b121
  have cZ := eZ.trans c122
  have c126 := cZ
  clear cZ eZ
  show PR M 162 [(0, .ref h)] [.ref q123, .ref h] ω124 (15, 1012)
  refine Y_putF C hI pf_X12_init_77 b125 c126 rfl rfl (Nat.le_of_ble_eq_true rfl) dX12_init_162 (fun ω127 bZ cZ => ?_)
  have b128 := bZ
  clear bZ b125
  have c129 : ω127.2 h = .inr (12, [.int (0 : Int32), .int (0 : Int32), .int (0 : Int32), .ref q10, .ref q17, .ref q24, .ref q31, .ref q38, .ref q45, .ref q52, .ref q59, .int (0 : Int32), .int (-1 : Int32), .int (0 : Int32), .int (0 : Int32), .int (0 : Int32), .ref q81, .ref q88, .ref q95, .ref q102, .ref q109, .ref q116, .ref q123, .null, .int 0, .int 0, .int 0, .null, .int 0, .null, .int 0, .null, .null, .int 0, .null, .null, .null, .null, .null, .null, .null, .int 0, .null, .null, .null, .int 0, .int 0, .null, .null, .int 0, .int 0, .int 0, .int 0, .int 0, .int 0, .int 0, .null, .null, .null, .null, .null, .null, .null, .null, .null, .null, .null, .null, .null, .int 0, .null, .null, .null, .null, .null]) := cZ
  clear cZ
  refine Z_aload_n C dX12_init_165 0 rfl ?_
  refine Z_bipush C dX12_init_166 (v := (101 : Int32)) (by decide +kernel) ?_
  refine Y_newa (t := 0) (a0 := (101, .inl (fun _ => 0))) C hU b128 (List.mem_of_getElem? (i := 7) rfl) rfl rfl (fun _ _ q => q) (fun _ => rfl) (by decide +kernel) rfl (by decide +kernel) (Nat.le_of_ble_eq_true rfl) (Nat.le_of_ble_eq_true rfl) dX12_init_168 (fun q130 ω131 bZ eZ => ?_)
  have b132 := bZ
  clear bZ b128
  have cZ := eZ.trans c129
  have c133 := cZ
  clear cZ eZ
  show PR M 170 [(0, .ref h)] [.ref q130, .ref h] ω131 (16, 1113)
  refine Y_putF C hI pf_X12_init_80 b132 c133 rfl rfl (Nat.le_of_ble_eq_true rfl) dX12_init_170 (fun ω134 bZ cZ => ?_)
  have b135 : BT ω0 ω134 h [(q10, .inl (vC (mV M) 0, (6, .inl (fun _ => 0)))), (q17, .inl (vC (mV M) 0, (6, .inl (fun _ => 0)))), (q24, .inl (vC (mV M) 0, (6, .inl (fun _ => 0)))), (q31, .inl (vC (mV M) 0, (6, .inl (fun _ => 0)))), (q38, .inl (vC (mV M) 0, (6, .inl (fun _ => 0)))), (q45, .inl (vC (mV M) 0, (6, .inl (fun _ => 0)))), (q52, .inl (vC (mV M) 0, (24, .inl (fun _ => 0)))), (q59, .inl (vC (mV M) 0, (6, .inl (fun _ => 0)))), (q81, .inl (vC (mV M) 0, (100, .inl (fun _ => 0)))), (q88, .inl (vC (mV M) 0, (6, .inl (fun _ => 0)))), (q95, .inl (vC (mV M) 0, (60, .inl (fun _ => 0)))), (q102, .inl (vC (mV M) 0, (60, .inl (fun _ => 0)))), (q109, .inl (vC (mV M) 0, (60, .inl (fun _ => 0)))), (q116, .inl (vC (mV M) 0, (60, .inl (fun _ => 0)))), (q123, .inl (vC (mV M) 0, (600, .inl (fun _ => 0)))), (q130, .inl (vC (mV M) 0, (101, .inl (fun _ => 0))))] := bZ
  clear bZ b132
  have c136 : ω134.2 h = .inr (12, [.int (0 : Int32), .int (0 : Int32), .int (0 : Int32), .ref q10, .ref q17, .ref q24, .ref q31, .ref q38, .ref q45, .ref q52, .ref q59, .int (0 : Int32), .int (-1 : Int32), .int (0 : Int32), .int (0 : Int32), .int (0 : Int32), .ref q81, .ref q88, .ref q95, .ref q102, .ref q109, .ref q116, .ref q123, .ref q130, .int 0, .int 0, .int 0, .null, .int 0, .null, .int 0, .null, .null, .int 0, .null, .null, .null, .null, .null, .null, .null, .int 0, .null, .null, .null, .int 0, .int 0, .null, .null, .int 0, .int 0, .int 0, .int 0, .int 0, .int 0, .int 0, .null, .null, .null, .null, .null, .null, .null, .null, .null, .null, .null, .null, .null, .int 0, .null, .null, .null, .null, .null]) := cZ
  clear cZ
  refine Z_aload_n C dX12_init_173 0 rfl ?_
  refine Z_iconst C dX12_init_174 (v := (0 : Int32)) (by decide +kernel) ?_
  refine Y_put C pa_X12_init_83 b135 c136 rfl rfl (Nat.le_of_ble_eq_true rfl) dX12_init_175 (fun ω137 bZ cZ => ?_)
  have b138 := bZ
  clear bZ b135
  have c139 : ω137.2 h = .inr (12, [.int (0 : Int32), .int (0 : Int32), .int (0 : Int32), .ref q10, .ref q17, .ref q24, .ref q31, .ref q38, .ref q45, .ref q52, .ref q59, .int (0 : Int32), .int (-1 : Int32), .int (0 : Int32), .int (0 : Int32), .int (0 : Int32), .ref q81, .ref q88, .ref q95, .ref q102, .ref q109, .ref q116, .ref q123, .ref q130, .int (0 : Int32), .int 0, .int 0, .null, .int 0, .null, .int 0, .null, .null, .int 0, .null, .null, .null, .null, .null, .null, .null, .int 0, .null, .null, .null, .int 0, .int 0, .null, .null, .int 0, .int 0, .int 0, .int 0, .int 0, .int 0, .int 0, .null, .null, .null, .null, .null, .null, .null, .null, .null, .null, .null, .null, .null, .int 0, .null, .null, .null, .null, .null]) := cZ
  clear cZ
  refine Z_aload_n C dX12_init_178 0 rfl ?_
  refine Z_iconst C dX12_init_179 (v := (0 : Int32)) (by decide +kernel) ?_
  refine Y_put C pa_X12_init_86 b138 c139 rfl rfl (Nat.le_of_ble_eq_true rfl) dX12_init_180 (fun ω140 bZ cZ => ?_)
  have b141 := bZ
  clear bZ b138
  have c142 : ω140.2 h = .inr (12, [.int (0 : Int32), .int (0 : Int32), .int (0 : Int32), .ref q10, .ref q17, .ref q24, .ref q31, .ref q38, .ref q45, .ref q52, .ref q59, .int (0 : Int32), .int (-1 : Int32), .int (0 : Int32), .int (0 : Int32), .int (0 : Int32), .ref q81, .ref q88, .ref q95, .ref q102, .ref q109, .ref q116, .ref q123, .ref q130, .int (0 : Int32), .int (0 : Int32), .int 0, .null, .int 0, .null, .int 0, .null, .null, .int 0, .null, .null, .null, .null, .null, .null, .null, .int 0, .null, .null, .null, .int 0, .int 0, .null, .null, .int 0, .int 0, .int 0, .int 0, .int 0, .int 0, .int 0, .null, .null, .null, .null, .null, .null, .null, .null, .null, .null, .null, .null, .null, .int 0, .null, .null, .null, .null, .null]) := cZ
  clear cZ
  refine Z_aload_n C dX12_init_183 0 rfl ?_
  refine Z_iconst C dX12_init_184 (v := (0 : Int32)) (by decide +kernel) ?_
  refine Y_put C pa_X12_init_89 b141 c142 rfl rfl (Nat.le_of_ble_eq_true rfl) dX12_init_185 (fun ω143 bZ cZ => ?_)
  have b144 := bZ
  clear bZ b141
  have c145 : ω143.2 h = .inr (12, [.int (0 : Int32), .int (0 : Int32), .int (0 : Int32), .ref q10, .ref q17, .ref q24, .ref q31, .ref q38, .ref q45, .ref q52, .ref q59, .int (0 : Int32), .int (-1 : Int32), .int (0 : Int32), .int (0 : Int32), .int (0 : Int32), .ref q81, .ref q88, .ref q95, .ref q102, .ref q109, .ref q116, .ref q123, .ref q130, .int (0 : Int32), .int (0 : Int32), .int (0 : Int32), .null, .int 0, .null, .int 0, .null, .null, .int 0, .null, .null, .null, .null, .null, .null, .null, .int 0, .null, .null, .null, .int 0, .int 0, .null, .null, .int 0, .int 0, .int 0, .int 0, .int 0, .int 0, .int 0, .null, .null, .null, .null, .null, .null, .null, .null, .null, .null, .null, .null, .null, .int 0, .null, .null, .null, .null, .null]) := cZ
  clear cZ
  refine Z_aload_n C dX12_init_188 0 rfl ?_
  refine Z_bipush C dX12_init_189 (v := (19 : Int32)) (by decide +kernel) ?_
  refine Y_newa (t := 0) (a0 := (19, .inl (fun _ => 0))) C hU b144 (List.mem_of_getElem? (i := 7) rfl) rfl rfl (fun _ _ q => q) (fun _ => rfl) (by decide +kernel) rfl (by decide +kernel) (Nat.le_of_ble_eq_true rfl) (Nat.le_of_ble_eq_true rfl) dX12_init_191 (fun q146 ω147 bZ eZ => ?_)
  have b148 := bZ
  clear bZ b144
  have cZ := eZ.trans c145
  have c149 := cZ
  clear cZ eZ
  show PR M 193 [(0, .ref h)] [.ref q146, .ref h] ω147 (17, 1132)
  refine Z_dup C dX12_init_193 rfl ?_
  refine Z_iconst C dX12_init_194 (v := (0 : Int32)) (by decide +kernel) ?_
  refine Z_bipush C dX12_init_195 (v := (102 : Int32)) (by decide +kernel) ?_
  refine Y_iast (k := 16) C b148 rfl (vp_in_iff.mpr ⟨by decide +kernel, by decide +kernel⟩) dX12_init_197 (fun ω150 bZ eZ => ?_)
  have b151 : BT ω0 ω150 h [(q10, .inl (vC (mV M) 0, (6, .inl (fun _ => 0)))), (q17, .inl (vC (mV M) 0, (6, .inl (fun _ => 0)))), (q24, .inl (vC (mV M) 0, (6, .inl (fun _ => 0)))), (q31, .inl (vC (mV M) 0, (6, .inl (fun _ => 0)))), (q38, .inl (vC (mV M) 0, (6, .inl (fun _ => 0)))), (q45, .inl (vC (mV M) 0, (6, .inl (fun _ => 0)))), (q52, .inl (vC (mV M) 0, (24, .inl (fun _ => 0)))), (q59, .inl (vC (mV M) 0, (6, .inl (fun _ => 0)))), (q81, .inl (vC (mV M) 0, (100, .inl (fun _ => 0)))), (q88, .inl (vC (mV M) 0, (6, .inl (fun _ => 0)))), (q95, .inl (vC (mV M) 0, (60, .inl (fun _ => 0)))), (q102, .inl (vC (mV M) 0, (60, .inl (fun _ => 0)))), (q109, .inl (vC (mV M) 0, (60, .inl (fun _ => 0)))), (q116, .inl (vC (mV M) 0, (60, .inl (fun _ => 0)))), (q123, .inl (vC (mV M) 0, (600, .inl (fun _ => 0)))), (q130, .inl (vC (mV M) 0, (101, .inl (fun _ => 0)))), (q146, .inl (vC (mV M) 0, (19, .inl (upd (fun _ => 0) 0 (102 : Int32)))))] := bZ
  clear bZ b148
  have c152 := eZ.trans c149
  clear eZ
  refine Z_dup C dX12_init_198 rfl ?_
  refine Z_iconst C dX12_init_199 (v := (1 : Int32)) (by decide +kernel) ?_
  refine Z_bipush C dX12_init_200 (v := (97 : Int32)) (by decide +kernel) ?_
  refine Y_iast (k := 16) C b151 rfl (vp_in_iff.mpr ⟨by decide +kernel, by decide +kernel⟩) dX12_init_202 (fun ω153 bZ eZ => ?_)
  have b154 : BT ω0 ω153 h [(q10, .inl (vC (mV M) 0, (6, .inl (fun _ => 0)))), (q17, .inl (vC (mV M) 0, (6, .inl (fun _ => 0)))), (q24, .inl (vC (mV M) 0, (6, .inl (fun _ => 0)))), (q31, .inl (vC (mV M) 0, (6, .inl (fun _ => 0)))), (q38, .inl (vC (mV M) 0, (6, .inl (fun _ => 0)))), (q45, .inl (vC (mV M) 0, (6, .inl (fun _ => 0)))), (q52, .inl (vC (mV M) 0, (24, .inl (fun _ => 0)))), (q59, .inl (vC (mV M) 0, (6, .inl (fun _ => 0)))), (q81, .inl (vC (mV M) 0, (100, .inl (fun _ => 0)))), (q88, .inl (vC (mV M) 0, (6, .inl (fun _ => 0)))), (q95, .inl (vC (mV M) 0, (60, .inl (fun _ => 0)))), (q102, .inl (vC (mV M) 0, (60, .inl (fun _ => 0)))), (q109, .inl (vC (mV M) 0, (60, .inl (fun _ => 0)))), (q116, .inl (vC (mV M) 0, (60, .inl (fun _ => 0)))), (q123, .inl (vC (mV M) 0, (600, .inl (fun _ => 0)))), (q130, .inl (vC (mV M) 0, (101, .inl (fun _ => 0)))), (q146, .inl (vC (mV M) 0, (19, .inl (upd (upd (fun _ => 0) 0 (102 : Int32)) 1 (97 : Int32)))))] := bZ
  clear bZ b151
  have c155 := eZ.trans c152
  clear eZ
  refine Z_dup C dX12_init_203 rfl ?_
  refine Z_iconst C dX12_init_204 (v := (2 : Int32)) (by decide +kernel) ?_
  refine Z_bipush C dX12_init_205 (v := (115 : Int32)) (by decide +kernel) ?_
  refine Y_iast (k := 16) C b154 rfl (vp_in_iff.mpr ⟨by decide +kernel, by decide +kernel⟩) dX12_init_207 (fun ω156 bZ eZ => ?_)
  have b157 : BT ω0 ω156 h [(q10, .inl (vC (mV M) 0, (6, .inl (fun _ => 0)))), (q17, .inl (vC (mV M) 0, (6, .inl (fun _ => 0)))), (q24, .inl (vC (mV M) 0, (6, .inl (fun _ => 0)))), (q31, .inl (vC (mV M) 0, (6, .inl (fun _ => 0)))), (q38, .inl (vC (mV M) 0, (6, .inl (fun _ => 0)))), (q45, .inl (vC (mV M) 0, (6, .inl (fun _ => 0)))), (q52, .inl (vC (mV M) 0, (24, .inl (fun _ => 0)))), (q59, .inl (vC (mV M) 0, (6, .inl (fun _ => 0)))), (q81, .inl (vC (mV M) 0, (100, .inl (fun _ => 0)))), (q88, .inl (vC (mV M) 0, (6, .inl (fun _ => 0)))), (q95, .inl (vC (mV M) 0, (60, .inl (fun _ => 0)))), (q102, .inl (vC (mV M) 0, (60, .inl (fun _ => 0)))), (q109, .inl (vC (mV M) 0, (60, .inl (fun _ => 0)))), (q116, .inl (vC (mV M) 0, (60, .inl (fun _ => 0)))), (q123, .inl (vC (mV M) 0, (600, .inl (fun _ => 0)))), (q130, .inl (vC (mV M) 0, (101, .inl (fun _ => 0)))), (q146, .inl (vC (mV M) 0, (19, .inl (upd (upd (upd (fun _ => 0) 0 (102 : Int32)) 1 (97 : Int32)) 2 (115 : Int32)))))] := bZ
  clear bZ b154
  have c158 := eZ.trans c155
  clear eZ
  refine Z_dup C dX12_init_208 rfl ?_
  refine Z_iconst C dX12_init_209 (v := (3 : Int32)) (by decide +kernel) ?_
  refine Z_bipush C dX12_init_210 (v := (116 : Int32)) (by decide +kernel) ?_
  refine Y_iast (k := 16) C b157 rfl (vp_in_iff.mpr ⟨by decide +kernel, by decide +kernel⟩) dX12_init_212 (fun ω159 bZ eZ => ?_)
  have b160 : BT ω0 ω159 h [(q10, .inl (vC (mV M) 0, (6, .inl (fun _ => 0)))), (q17, .inl (vC (mV M) 0, (6, .inl (fun _ => 0)))), (q24, .inl (vC (mV M) 0, (6, .inl (fun _ => 0)))), (q31, .inl (vC (mV M) 0, (6, .inl (fun _ => 0)))), (q38, .inl (vC (mV M) 0, (6, .inl (fun _ => 0)))), (q45, .inl (vC (mV M) 0, (6, .inl (fun _ => 0)))), (q52, .inl (vC (mV M) 0, (24, .inl (fun _ => 0)))), (q59, .inl (vC (mV M) 0, (6, .inl (fun _ => 0)))), (q81, .inl (vC (mV M) 0, (100, .inl (fun _ => 0)))), (q88, .inl (vC (mV M) 0, (6, .inl (fun _ => 0)))), (q95, .inl (vC (mV M) 0, (60, .inl (fun _ => 0)))), (q102, .inl (vC (mV M) 0, (60, .inl (fun _ => 0)))), (q109, .inl (vC (mV M) 0, (60, .inl (fun _ => 0)))), (q116, .inl (vC (mV M) 0, (60, .inl (fun _ => 0)))), (q123, .inl (vC (mV M) 0, (600, .inl (fun _ => 0)))), (q130, .inl (vC (mV M) 0, (101, .inl (fun _ => 0)))), (q146, .inl (vC (mV M) 0, (19, .inl (upd (upd (upd (upd (fun _ => 0) 0 (102 : Int32)) 1 (97 : Int32)) 2 (115 : Int32)) 3 (116 : Int32)))))] := bZ
  clear bZ b157
  have c161 := eZ.trans c158
  clear eZ
  refine Z_dup C dX12_init_213 rfl ?_
  refine Z_iconst C dX12_init_214 (v := (4 : Int32)) (by decide +kernel) ?_
  refine Z_bipush C dX12_init_215 (v := (115 : Int32)) (by decide +kernel) ?_
  refine Y_iast (k := 16) C b160 rfl (vp_in_iff.mpr ⟨by decide +kernel, by decide +kernel⟩) dX12_init_217 (fun ω162 bZ eZ => ?_)
  have b163 : BT ω0 ω162 h [(q10, .inl (vC (mV M) 0, (6, .inl (fun _ => 0)))), (q17, .inl (vC (mV M) 0, (6, .inl (fun _ => 0)))), (q24, .inl (vC (mV M) 0, (6, .inl (fun _ => 0)))), (q31, .inl (vC (mV M) 0, (6, .inl (fun _ => 0)))), (q38, .inl (vC (mV M) 0, (6, .inl (fun _ => 0)))), (q45, .inl (vC (mV M) 0, (6, .inl (fun _ => 0)))), (q52, .inl (vC (mV M) 0, (24, .inl (fun _ => 0)))), (q59, .inl (vC (mV M) 0, (6, .inl (fun _ => 0)))), (q81, .inl (vC (mV M) 0, (100, .inl (fun _ => 0)))), (q88, .inl (vC (mV M) 0, (6, .inl (fun _ => 0)))), (q95, .inl (vC (mV M) 0, (60, .inl (fun _ => 0)))), (q102, .inl (vC (mV M) 0, (60, .inl (fun _ => 0)))), (q109, .inl (vC (mV M) 0, (60, .inl (fun _ => 0)))), (q116, .inl (vC (mV M) 0, (60, .inl (fun _ => 0)))), (q123, .inl (vC (mV M) 0, (600, .inl (fun _ => 0)))), (q130, .inl (vC (mV M) 0, (101, .inl (fun _ => 0)))), (q146, .inl (vC (mV M) 0, (19, .inl (upd (upd (upd (upd (upd (fun _ => 0) 0 (102 : Int32)) 1 (97 : Int32)) 2 (115 : Int32)) 3 (116 : Int32)) 4 (115 : Int32)))))] := bZ
  clear bZ b160
  have c164 := eZ.trans c161
  clear eZ
  refine Z_dup C dX12_init_218 rfl ?_
  refine Z_iconst C dX12_init_219 (v := (5 : Int32)) (by decide +kernel) ?_
  refine Z_bipush C dX12_init_220 (v := (108 : Int32)) (by decide +kernel) ?_
  refine Y_iast (k := 16) C b163 rfl (vp_in_iff.mpr ⟨by decide +kernel, by decide +kernel⟩) dX12_init_222 (fun ω165 bZ eZ => ?_)
  have b166 : BT ω0 ω165 h [(q10, .inl (vC (mV M) 0, (6, .inl (fun _ => 0)))), (q17, .inl (vC (mV M) 0, (6, .inl (fun _ => 0)))), (q24, .inl (vC (mV M) 0, (6, .inl (fun _ => 0)))), (q31, .inl (vC (mV M) 0, (6, .inl (fun _ => 0)))), (q38, .inl (vC (mV M) 0, (6, .inl (fun _ => 0)))), (q45, .inl (vC (mV M) 0, (6, .inl (fun _ => 0)))), (q52, .inl (vC (mV M) 0, (24, .inl (fun _ => 0)))), (q59, .inl (vC (mV M) 0, (6, .inl (fun _ => 0)))), (q81, .inl (vC (mV M) 0, (100, .inl (fun _ => 0)))), (q88, .inl (vC (mV M) 0, (6, .inl (fun _ => 0)))), (q95, .inl (vC (mV M) 0, (60, .inl (fun _ => 0)))), (q102, .inl (vC (mV M) 0, (60, .inl (fun _ => 0)))), (q109, .inl (vC (mV M) 0, (60, .inl (fun _ => 0)))), (q116, .inl (vC (mV M) 0, (60, .inl (fun _ => 0)))), (q123, .inl (vC (mV M) 0, (600, .inl (fun _ => 0)))), (q130, .inl (vC (mV M) 0, (101, .inl (fun _ => 0)))), (q146, .inl (vC (mV M) 0, (19, .inl (upd (upd (upd (upd (upd (upd (fun _ => 0) 0 (102 : Int32)) 1 (97 : Int32)) 2 (115 : Int32)) 3 (116 : Int32)) 4 (115 : Int32)) 5 (108 : Int32)))))] := bZ
  clear bZ b163
  have c167 := eZ.trans c164
  clear eZ
  refine Z_dup C dX12_init_223 rfl ?_
  refine Z_bipush C dX12_init_224 (v := (6 : Int32)) (by decide +kernel) ?_
  refine Z_bipush C dX12_init_226 (v := (111 : Int32)) (by decide +kernel) ?_
  refine Y_iast (k := 16) C b166 rfl (vp_in_iff.mpr ⟨by decide +kernel, by decide +kernel⟩) dX12_init_228 (fun ω168 bZ eZ => ?_)
  have b169 : BT ω0 ω168 h [(q10, .inl (vC (mV M) 0, (6, .inl (fun _ => 0)))), (q17, .inl (vC (mV M) 0, (6, .inl (fun _ => 0)))), (q24, .inl (vC (mV M) 0, (6, .inl (fun _ => 0)))), (q31, .inl (vC (mV M) 0, (6, .inl (fun _ => 0)))), (q38, .inl (vC (mV M) 0, (6, .inl (fun _ => 0)))), (q45, .inl (vC (mV M) 0, (6, .inl (fun _ => 0)))), (q52, .inl (vC (mV M) 0, (24, .inl (fun _ => 0)))), (q59, .inl (vC (mV M) 0, (6, .inl (fun _ => 0)))), (q81, .inl (vC (mV M) 0, (100, .inl (fun _ => 0)))), (q88, .inl (vC (mV M) 0, (6, .inl (fun _ => 0)))), (q95, .inl (vC (mV M) 0, (60, .inl (fun _ => 0)))), (q102, .inl (vC (mV M) 0, (60, .inl (fun _ => 0)))), (q109, .inl (vC (mV M) 0, (60, .inl (fun _ => 0)))), (q116, .inl (vC (mV M) 0, (60, .inl (fun _ => 0)))), (q123, .inl (vC (mV M) 0, (600, .inl (fun _ => 0)))), (q130, .inl (vC (mV M) 0, (101, .inl (fun _ => 0)))), (q146, .inl (vC (mV M) 0, (19, .inl (upd (upd (upd (upd (upd (upd (upd (fun _ => 0) 0 (102 : Int32)) 1 (97 : Int32)) 2 (115 : Int32)) 3 (116 : Int32)) 4 (115 : Int32)) 5 (108 : Int32)) 6 (111 : Int32)))))] := bZ
  clear bZ b166
  have c170 := eZ.trans c167
  clear eZ
  refine Z_dup C dX12_init_229 rfl ?_
  refine Z_bipush C dX12_init_230 (v := (7 : Int32)) (by decide +kernel) ?_
  refine Z_bipush C dX12_init_232 (v := (119 : Int32)) (by decide +kernel) ?_
  refine Y_iast (k := 16) C b169 rfl (vp_in_iff.mpr ⟨by decide +kernel, by decide +kernel⟩) dX12_init_234 (fun ω171 bZ eZ => ?_)
  have b172 : BT ω0 ω171 h [(q10, .inl (vC (mV M) 0, (6, .inl (fun _ => 0)))), (q17, .inl (vC (mV M) 0, (6, .inl (fun _ => 0)))), (q24, .inl (vC (mV M) 0, (6, .inl (fun _ => 0)))), (q31, .inl (vC (mV M) 0, (6, .inl (fun _ => 0)))), (q38, .inl (vC (mV M) 0, (6, .inl (fun _ => 0)))), (q45, .inl (vC (mV M) 0, (6, .inl (fun _ => 0)))), (q52, .inl (vC (mV M) 0, (24, .inl (fun _ => 0)))), (q59, .inl (vC (mV M) 0, (6, .inl (fun _ => 0)))), (q81, .inl (vC (mV M) 0, (100, .inl (fun _ => 0)))), (q88, .inl (vC (mV M) 0, (6, .inl (fun _ => 0)))), (q95, .inl (vC (mV M) 0, (60, .inl (fun _ => 0)))), (q102, .inl (vC (mV M) 0, (60, .inl (fun _ => 0)))), (q109, .inl (vC (mV M) 0, (60, .inl (fun _ => 0)))), (q116, .inl (vC (mV M) 0, (60, .inl (fun _ => 0)))), (q123, .inl (vC (mV M) 0, (600, .inl (fun _ => 0)))), (q130, .inl (vC (mV M) 0, (101, .inl (fun _ => 0)))), (q146, .inl (vC (mV M) 0, (19, .inl (upd (upd (upd (upd (upd (upd (upd (upd (fun _ => 0) 0 (102 : Int32)) 1 (97 : Int32)) 2 (115 : Int32)) 3 (116 : Int32)) 4 (115 : Int32)) 5 (108 : Int32)) 6 (111 : Int32)) 7 (119 : Int32)))))] := bZ
  clear bZ b169
  have c173 := eZ.trans c170
  clear eZ
  refine Z_dup C dX12_init_235 rfl ?_
  refine Z_bipush C dX12_init_236 (v := (8 : Int32)) (by decide +kernel) ?_
  refine Z_bipush C dX12_init_238 (v := (103 : Int32)) (by decide +kernel) ?_
  refine Y_iast (k := 16) C b172 rfl (vp_in_iff.mpr ⟨by decide +kernel, by decide +kernel⟩) dX12_init_240 (fun ω174 bZ eZ => ?_)
  have b175 : BT ω0 ω174 h [(q10, .inl (vC (mV M) 0, (6, .inl (fun _ => 0)))), (q17, .inl (vC (mV M) 0, (6, .inl (fun _ => 0)))), (q24, .inl (vC (mV M) 0, (6, .inl (fun _ => 0)))), (q31, .inl (vC (mV M) 0, (6, .inl (fun _ => 0)))), (q38, .inl (vC (mV M) 0, (6, .inl (fun _ => 0)))), (q45, .inl (vC (mV M) 0, (6, .inl (fun _ => 0)))), (q52, .inl (vC (mV M) 0, (24, .inl (fun _ => 0)))), (q59, .inl (vC (mV M) 0, (6, .inl (fun _ => 0)))), (q81, .inl (vC (mV M) 0, (100, .inl (fun _ => 0)))), (q88, .inl (vC (mV M) 0, (6, .inl (fun _ => 0)))), (q95, .inl (vC (mV M) 0, (60, .inl (fun _ => 0)))), (q102, .inl (vC (mV M) 0, (60, .inl (fun _ => 0)))), (q109, .inl (vC (mV M) 0, (60, .inl (fun _ => 0)))), (q116, .inl (vC (mV M) 0, (60, .inl (fun _ => 0)))), (q123, .inl (vC (mV M) 0, (600, .inl (fun _ => 0)))), (q130, .inl (vC (mV M) 0, (101, .inl (fun _ => 0)))), (q146, .inl (vC (mV M) 0, (19, .inl (upd (upd (upd (upd (upd (upd (upd (upd (upd (fun _ => 0) 0 (102 : Int32)) 1 (97 : Int32)) 2 (115 : Int32)) 3 (116 : Int32)) 4 (115 : Int32)) 5 (108 : Int32)) 6 (111 : Int32)) 7 (119 : Int32)) 8 (103 : Int32)))))] := bZ
  clear bZ b172
  have c176 := eZ.trans c173
  clear eZ
  refine Z_dup C dX12_init_241 rfl ?_
  refine Z_bipush C dX12_init_242 (v := (9 : Int32)) (by decide +kernel) ?_
  refine Z_bipush C dX12_init_244 (v := (97 : Int32)) (by decide +kernel) ?_
  refine Y_iast (k := 16) C b175 rfl (vp_in_iff.mpr ⟨by decide +kernel, by decide +kernel⟩) dX12_init_246 (fun ω177 bZ eZ => ?_)
  have b178 : BT ω0 ω177 h [(q10, .inl (vC (mV M) 0, (6, .inl (fun _ => 0)))), (q17, .inl (vC (mV M) 0, (6, .inl (fun _ => 0)))), (q24, .inl (vC (mV M) 0, (6, .inl (fun _ => 0)))), (q31, .inl (vC (mV M) 0, (6, .inl (fun _ => 0)))), (q38, .inl (vC (mV M) 0, (6, .inl (fun _ => 0)))), (q45, .inl (vC (mV M) 0, (6, .inl (fun _ => 0)))), (q52, .inl (vC (mV M) 0, (24, .inl (fun _ => 0)))), (q59, .inl (vC (mV M) 0, (6, .inl (fun _ => 0)))), (q81, .inl (vC (mV M) 0, (100, .inl (fun _ => 0)))), (q88, .inl (vC (mV M) 0, (6, .inl (fun _ => 0)))), (q95, .inl (vC (mV M) 0, (60, .inl (fun _ => 0)))), (q102, .inl (vC (mV M) 0, (60, .inl (fun _ => 0)))), (q109, .inl (vC (mV M) 0, (60, .inl (fun _ => 0)))), (q116, .inl (vC (mV M) 0, (60, .inl (fun _ => 0)))), (q123, .inl (vC (mV M) 0, (600, .inl (fun _ => 0)))), (q130, .inl (vC (mV M) 0, (101, .inl (fun _ => 0)))), (q146, .inl (vC (mV M) 0, (19, .inl (upd (upd (upd (upd (upd (upd (upd (upd (upd (upd (fun _ => 0) 0 (102 : Int32)) 1 (97 : Int32)) 2 (115 : Int32)) 3 (116 : Int32)) 4 (115 : Int32)) 5 (108 : Int32)) 6 (111 : Int32)) 7 (119 : Int32)) 8 (103 : Int32)) 9 (97 : Int32)))))] := bZ
  clear bZ b175
  have c179 := eZ.trans c176
  clear eZ
  refine Z_dup C dX12_init_247 rfl ?_
  refine Z_bipush C dX12_init_248 (v := (10 : Int32)) (by decide +kernel) ?_
  refine Z_bipush C dX12_init_250 (v := (112 : Int32)) (by decide +kernel) ?_
  refine Y_iast (k := 16) C b178 rfl (vp_in_iff.mpr ⟨by decide +kernel, by decide +kernel⟩) dX12_init_252 (fun ω180 bZ eZ => ?_)
  have b181 : BT ω0 ω180 h [(q10, .inl (vC (mV M) 0, (6, .inl (fun _ => 0)))), (q17, .inl (vC (mV M) 0, (6, .inl (fun _ => 0)))), (q24, .inl (vC (mV M) 0, (6, .inl (fun _ => 0)))), (q31, .inl (vC (mV M) 0, (6, .inl (fun _ => 0)))), (q38, .inl (vC (mV M) 0, (6, .inl (fun _ => 0)))), (q45, .inl (vC (mV M) 0, (6, .inl (fun _ => 0)))), (q52, .inl (vC (mV M) 0, (24, .inl (fun _ => 0)))), (q59, .inl (vC (mV M) 0, (6, .inl (fun _ => 0)))), (q81, .inl (vC (mV M) 0, (100, .inl (fun _ => 0)))), (q88, .inl (vC (mV M) 0, (6, .inl (fun _ => 0)))), (q95, .inl (vC (mV M) 0, (60, .inl (fun _ => 0)))), (q102, .inl (vC (mV M) 0, (60, .inl (fun _ => 0)))), (q109, .inl (vC (mV M) 0, (60, .inl (fun _ => 0)))), (q116, .inl (vC (mV M) 0, (60, .inl (fun _ => 0)))), (q123, .inl (vC (mV M) 0, (600, .inl (fun _ => 0)))), (q130, .inl (vC (mV M) 0, (101, .inl (fun _ => 0)))), (q146, .inl (vC (mV M) 0, (19, .inl (upd (upd (upd (upd (upd (upd (upd (upd (upd (upd (upd (fun _ => 0) 0 (102 : Int32)) 1 (97 : Int32)) 2 (115 : Int32)) 3 (116 : Int32)) 4 (115 : Int32)) 5 (108 : Int32)) 6 (111 : Int32)) 7 (119 : Int32)) 8 (103 : Int32)) 9 (97 : Int32)) 10 (112 : Int32)))))] := bZ
  clear bZ b178
  have c182 := eZ.trans c179
  clear eZ
  refine Z_dup C dX12_init_253 rfl ?_
  refine Z_bipush C dX12_init_254 (v := (11 : Int32)) (by decide +kernel) ?_
  refine Z_bipush C dX12_init_256 (v := (116 : Int32)) (by decide +kernel) ?_
  refine Y_iast (k := 16) C b181 rfl (vp_in_iff.mpr ⟨by decide +kernel, by decide +kernel⟩) dX12_init_258 (fun ω183 bZ eZ => ?_)
  have b184 : BT ω0 ω183 h [(q10, .inl (vC (mV M) 0, (6, .inl (fun _ => 0)))), (q17, .inl (vC (mV M) 0, (6, .inl (fun _ => 0)))), (q24, .inl (vC (mV M) 0, (6, .inl (fun _ => 0)))), (q31, .inl (vC (mV M) 0, (6, .inl (fun _ => 0)))), (q38, .inl (vC (mV M) 0, (6, .inl (fun _ => 0)))), (q45, .inl (vC (mV M) 0, (6, .inl (fun _ => 0)))), (q52, .inl (vC (mV M) 0, (24, .inl (fun _ => 0)))), (q59, .inl (vC (mV M) 0, (6, .inl (fun _ => 0)))), (q81, .inl (vC (mV M) 0, (100, .inl (fun _ => 0)))), (q88, .inl (vC (mV M) 0, (6, .inl (fun _ => 0)))), (q95, .inl (vC (mV M) 0, (60, .inl (fun _ => 0)))), (q102, .inl (vC (mV M) 0, (60, .inl (fun _ => 0)))), (q109, .inl (vC (mV M) 0, (60, .inl (fun _ => 0)))), (q116, .inl (vC (mV M) 0, (60, .inl (fun _ => 0)))), (q123, .inl (vC (mV M) 0, (600, .inl (fun _ => 0)))), (q130, .inl (vC (mV M) 0, (101, .inl (fun _ => 0)))), (q146, .inl (vC (mV M) 0, (19, .inl (upd (upd (upd (upd (upd (upd (upd (upd (upd (upd (upd (upd (fun _ => 0) 0 (102 : Int32)) 1 (97 : Int32)) 2 (115 : Int32)) 3 (116 : Int32)) 4 (115 : Int32)) 5 (108 : Int32)) 6 (111 : Int32)) 7 (119 : Int32)) 8 (103 : Int32)) 9 (97 : Int32)) 10 (112 : Int32)) 11 (116 : Int32)))))] := bZ
  clear bZ b181
  have c185 := eZ.trans c182
  clear eZ
  refine Z_dup C dX12_init_259 rfl ?_
  refine Z_bipush C dX12_init_260 (v := (12 : Int32)) (by decide +kernel) ?_
  refine Z_bipush C dX12_init_262 (v := (105 : Int32)) (by decide +kernel) ?_
  refine Y_iast (k := 16) C b184 rfl (vp_in_iff.mpr ⟨by decide +kernel, by decide +kernel⟩) dX12_init_264 (fun ω186 bZ eZ => ?_)
  have b187 : BT ω0 ω186 h [(q10, .inl (vC (mV M) 0, (6, .inl (fun _ => 0)))), (q17, .inl (vC (mV M) 0, (6, .inl (fun _ => 0)))), (q24, .inl (vC (mV M) 0, (6, .inl (fun _ => 0)))), (q31, .inl (vC (mV M) 0, (6, .inl (fun _ => 0)))), (q38, .inl (vC (mV M) 0, (6, .inl (fun _ => 0)))), (q45, .inl (vC (mV M) 0, (6, .inl (fun _ => 0)))), (q52, .inl (vC (mV M) 0, (24, .inl (fun _ => 0)))), (q59, .inl (vC (mV M) 0, (6, .inl (fun _ => 0)))), (q81, .inl (vC (mV M) 0, (100, .inl (fun _ => 0)))), (q88, .inl (vC (mV M) 0, (6, .inl (fun _ => 0)))), (q95, .inl (vC (mV M) 0, (60, .inl (fun _ => 0)))), (q102, .inl (vC (mV M) 0, (60, .inl (fun _ => 0)))), (q109, .inl (vC (mV M) 0, (60, .inl (fun _ => 0)))), (q116, .inl (vC (mV M) 0, (60, .inl (fun _ => 0)))), (q123, .inl (vC (mV M) 0, (600, .inl (fun _ => 0)))), (q130, .inl (vC (mV M) 0, (101, .inl (fun _ => 0)))), (q146, .inl (vC (mV M) 0, (19, .inl (upd (upd (upd (upd (upd (upd (upd (upd (upd (upd (upd (upd (upd (fun _ => 0) 0 (102 : Int32)) 1 (97 : Int32)) 2 (115 : Int32)) 3 (116 : Int32)) 4 (115 : Int32)) 5 (108 : Int32)) 6 (111 : Int32)) 7 (119 : Int32)) 8 (103 : Int32)) 9 (97 : Int32)) 10 (112 : Int32)) 11 (116 : Int32)) 12 (105 : Int32)))))] := bZ
  clear bZ b184
  have c188 := eZ.trans c185
  clear eZ
  refine Z_dup C dX12_init_265 rfl ?_
  refine Z_bipush C dX12_init_266 (v := (13 : Int32)) (by decide +kernel) ?_
  refine Z_bipush C dX12_init_268 (v := (114 : Int32)) (by decide +kernel) ?_
  refine Y_iast (k := 16) C b187 rfl (vp_in_iff.mpr ⟨by decide +kernel, by decide +kernel⟩) dX12_init_270 (fun ω189 bZ eZ => ?_)
  have b190 : BT ω0 ω189 h [(q10, .inl (vC (mV M) 0, (6, .inl (fun _ => 0)))), (q17, .inl (vC (mV M) 0, (6, .inl (fun _ => 0)))), (q24, .inl (vC (mV M) 0, (6, .inl (fun _ => 0)))), (q31, .inl (vC (mV M) 0, (6, .inl (fun _ => 0)))), (q38, .inl (vC (mV M) 0, (6, .inl (fun _ => 0)))), (q45, .inl (vC (mV M) 0, (6, .inl (fun _ => 0)))), (q52, .inl (vC (mV M) 0, (24, .inl (fun _ => 0)))), (q59, .inl (vC (mV M) 0, (6, .inl (fun _ => 0)))), (q81, .inl (vC (mV M) 0, (100, .inl (fun _ => 0)))), (q88, .inl (vC (mV M) 0, (6, .inl (fun _ => 0)))), (q95, .inl (vC (mV M) 0, (60, .inl (fun _ => 0)))), (q102, .inl (vC (mV M) 0, (60, .inl (fun _ => 0)))), (q109, .inl (vC (mV M) 0, (60, .inl (fun _ => 0)))), (q116, .inl (vC (mV M) 0, (60, .inl (fun _ => 0)))), (q123, .inl (vC (mV M) 0, (600, .inl (fun _ => 0)))), (q130, .inl (vC (mV M) 0, (101, .inl (fun _ => 0)))), (q146, .inl (vC (mV M) 0, (19, .inl (upd (upd (upd (upd (upd (upd (upd (upd (upd (upd (upd (upd (upd (upd (fun _ => 0) 0 (102 : Int32)) 1 (97 : Int32)) 2 (115 : Int32)) 3 (116 : Int32)) 4 (115 : Int32)) 5 (108 : Int32)) 6 (111 : Int32)) 7 (119 : Int32)) 8 (103 : Int32)) 9 (97 : Int32)) 10 (112 : Int32)) 11 (116 : Int32)) 12 (105 : Int32)) 13 (114 : Int32)))))] := bZ
  clear bZ b187
  have c191 := eZ.trans c188
  clear eZ
  refine Z_dup C dX12_init_271 rfl ?_
  refine Z_bipush C dX12_init_272 (v := (14 : Int32)) (by decide +kernel) ?_
  refine Z_bipush C dX12_init_274 (v := (101 : Int32)) (by decide +kernel) ?_
  refine Y_iast (k := 16) C b190 rfl (vp_in_iff.mpr ⟨by decide +kernel, by decide +kernel⟩) dX12_init_276 (fun ω192 bZ eZ => ?_)
  have b193 : BT ω0 ω192 h [(q10, .inl (vC (mV M) 0, (6, .inl (fun _ => 0)))), (q17, .inl (vC (mV M) 0, (6, .inl (fun _ => 0)))), (q24, .inl (vC (mV M) 0, (6, .inl (fun _ => 0)))), (q31, .inl (vC (mV M) 0, (6, .inl (fun _ => 0)))), (q38, .inl (vC (mV M) 0, (6, .inl (fun _ => 0)))), (q45, .inl (vC (mV M) 0, (6, .inl (fun _ => 0)))), (q52, .inl (vC (mV M) 0, (24, .inl (fun _ => 0)))), (q59, .inl (vC (mV M) 0, (6, .inl (fun _ => 0)))), (q81, .inl (vC (mV M) 0, (100, .inl (fun _ => 0)))), (q88, .inl (vC (mV M) 0, (6, .inl (fun _ => 0)))), (q95, .inl (vC (mV M) 0, (60, .inl (fun _ => 0)))), (q102, .inl (vC (mV M) 0, (60, .inl (fun _ => 0)))), (q109, .inl (vC (mV M) 0, (60, .inl (fun _ => 0)))), (q116, .inl (vC (mV M) 0, (60, .inl (fun _ => 0)))), (q123, .inl (vC (mV M) 0, (600, .inl (fun _ => 0)))), (q130, .inl (vC (mV M) 0, (101, .inl (fun _ => 0)))), (q146, .inl (vC (mV M) 0, (19, .inl (upd (upd (upd (upd (upd (upd (upd (upd (upd (upd (upd (upd (upd (upd (upd (fun _ => 0) 0 (102 : Int32)) 1 (97 : Int32)) 2 (115 : Int32)) 3 (116 : Int32)) 4 (115 : Int32)) 5 (108 : Int32)) 6 (111 : Int32)) 7 (119 : Int32)) 8 (103 : Int32)) 9 (97 : Int32)) 10 (112 : Int32)) 11 (116 : Int32)) 12 (105 : Int32)) 13 (114 : Int32)) 14 (101 : Int32)))))] := bZ
  clear bZ b190
  have c194 := eZ.trans c191
  clear eZ
  refine Z_dup C dX12_init_277 rfl ?_
  refine Z_bipush C dX12_init_278 (v := (15 : Int32)) (by decide +kernel) ?_
  refine Z_bipush C dX12_init_280 (v := (108 : Int32)) (by decide +kernel) ?_
  refine Y_iast (k := 16) C b193 rfl (vp_in_iff.mpr ⟨by decide +kernel, by decide +kernel⟩) dX12_init_282 (fun ω195 bZ eZ => ?_)
  have b196 : BT ω0 ω195 h [(q10, .inl (vC (mV M) 0, (6, .inl (fun _ => 0)))), (q17, .inl (vC (mV M) 0, (6, .inl (fun _ => 0)))), (q24, .inl (vC (mV M) 0, (6, .inl (fun _ => 0)))), (q31, .inl (vC (mV M) 0, (6, .inl (fun _ => 0)))), (q38, .inl (vC (mV M) 0, (6, .inl (fun _ => 0)))), (q45, .inl (vC (mV M) 0, (6, .inl (fun _ => 0)))), (q52, .inl (vC (mV M) 0, (24, .inl (fun _ => 0)))), (q59, .inl (vC (mV M) 0, (6, .inl (fun _ => 0)))), (q81, .inl (vC (mV M) 0, (100, .inl (fun _ => 0)))), (q88, .inl (vC (mV M) 0, (6, .inl (fun _ => 0)))), (q95, .inl (vC (mV M) 0, (60, .inl (fun _ => 0)))), (q102, .inl (vC (mV M) 0, (60, .inl (fun _ => 0)))), (q109, .inl (vC (mV M) 0, (60, .inl (fun _ => 0)))), (q116, .inl (vC (mV M) 0, (60, .inl (fun _ => 0)))), (q123, .inl (vC (mV M) 0, (600, .inl (fun _ => 0)))), (q130, .inl (vC (mV M) 0, (101, .inl (fun _ => 0)))), (q146, .inl (vC (mV M) 0, (19, .inl (upd (upd (upd (upd (upd (upd (upd (upd (upd (upd (upd (upd (upd (upd (upd (upd (fun _ => 0) 0 (102 : Int32)) 1 (97 : Int32)) 2 (115 : Int32)) 3 (116 : Int32)) 4 (115 : Int32)) 5 (108 : Int32)) 6 (111 : Int32)) 7 (119 : Int32)) 8 (103 : Int32)) 9 (97 : Int32)) 10 (112 : Int32)) 11 (116 : Int32)) 12 (105 : Int32)) 13 (114 : Int32)) 14 (101 : Int32)) 15 (108 : Int32)))))] := bZ
  clear bZ b193
  have c197 := eZ.trans c194
  clear eZ
  refine Z_dup C dX12_init_283 rfl ?_
  refine Z_bipush C dX12_init_284 (v := (16 : Int32)) (by decide +kernel) ?_
  refine Z_bipush C dX12_init_286 (v := (111 : Int32)) (by decide +kernel) ?_
  refine Y_iast (k := 16) C b196 rfl (vp_in_iff.mpr ⟨by decide +kernel, by decide +kernel⟩) dX12_init_288 (fun ω198 bZ eZ => ?_)
  have b199 : BT ω0 ω198 h [(q10, .inl (vC (mV M) 0, (6, .inl (fun _ => 0)))), (q17, .inl (vC (mV M) 0, (6, .inl (fun _ => 0)))), (q24, .inl (vC (mV M) 0, (6, .inl (fun _ => 0)))), (q31, .inl (vC (mV M) 0, (6, .inl (fun _ => 0)))), (q38, .inl (vC (mV M) 0, (6, .inl (fun _ => 0)))), (q45, .inl (vC (mV M) 0, (6, .inl (fun _ => 0)))), (q52, .inl (vC (mV M) 0, (24, .inl (fun _ => 0)))), (q59, .inl (vC (mV M) 0, (6, .inl (fun _ => 0)))), (q81, .inl (vC (mV M) 0, (100, .inl (fun _ => 0)))), (q88, .inl (vC (mV M) 0, (6, .inl (fun _ => 0)))), (q95, .inl (vC (mV M) 0, (60, .inl (fun _ => 0)))), (q102, .inl (vC (mV M) 0, (60, .inl (fun _ => 0)))), (q109, .inl (vC (mV M) 0, (60, .inl (fun _ => 0)))), (q116, .inl (vC (mV M) 0, (60, .inl (fun _ => 0)))), (q123, .inl (vC (mV M) 0, (600, .inl (fun _ => 0)))), (q130, .inl (vC (mV M) 0, (101, .inl (fun _ => 0)))), (q146, .inl (vC (mV M) 0, (19, .inl (upd (upd (upd (upd (upd (upd (upd (upd (upd (upd (upd (upd (upd (upd (upd (upd (upd (fun _ => 0) 0 (102 : Int32)) 1 (97 : Int32)) 2 (115 : Int32)) 3 (116 : Int32)) 4 (115 : Int32)) 5 (108 : Int32)) 6 (111 : Int32)) 7 (119 : Int32)) 8 (103 : Int32)) 9 (97 : Int32)) 10 (112 : Int32)) 11 (116 : Int32)) 12 (105 : Int32)) 13 (114 : Int32)) 14 (101 : Int32)) 15 (108 : Int32)) 16 (111 : Int32)))))] := bZ
  clear bZ b196
  have c200 := eZ.trans c197
  clear eZ
  refine Z_dup C dX12_init_289 rfl ?_
  refine Z_bipush C dX12_init_290 (v := (17 : Int32)) (by decide +kernel) ?_
  refine Z_bipush C dX12_init_292 (v := (110 : Int32)) (by decide +kernel) ?_
  refine Y_iast (k := 16) C b199 rfl (vp_in_iff.mpr ⟨by decide +kernel, by decide +kernel⟩) dX12_init_294 (fun ω201 bZ eZ => ?_)
  have b202 : BT ω0 ω201 h [(q10, .inl (vC (mV M) 0, (6, .inl (fun _ => 0)))), (q17, .inl (vC (mV M) 0, (6, .inl (fun _ => 0)))), (q24, .inl (vC (mV M) 0, (6, .inl (fun _ => 0)))), (q31, .inl (vC (mV M) 0, (6, .inl (fun _ => 0)))), (q38, .inl (vC (mV M) 0, (6, .inl (fun _ => 0)))), (q45, .inl (vC (mV M) 0, (6, .inl (fun _ => 0)))), (q52, .inl (vC (mV M) 0, (24, .inl (fun _ => 0)))), (q59, .inl (vC (mV M) 0, (6, .inl (fun _ => 0)))), (q81, .inl (vC (mV M) 0, (100, .inl (fun _ => 0)))), (q88, .inl (vC (mV M) 0, (6, .inl (fun _ => 0)))), (q95, .inl (vC (mV M) 0, (60, .inl (fun _ => 0)))), (q102, .inl (vC (mV M) 0, (60, .inl (fun _ => 0)))), (q109, .inl (vC (mV M) 0, (60, .inl (fun _ => 0)))), (q116, .inl (vC (mV M) 0, (60, .inl (fun _ => 0)))), (q123, .inl (vC (mV M) 0, (600, .inl (fun _ => 0)))), (q130, .inl (vC (mV M) 0, (101, .inl (fun _ => 0)))), (q146, .inl (vC (mV M) 0, (19, .inl (upd (upd (upd (upd (upd (upd (upd (upd (upd (upd (upd (upd (upd (upd (upd (upd (upd (upd (fun _ => 0) 0 (102 : Int32)) 1 (97 : Int32)) 2 (115 : Int32)) 3 (116 : Int32)) 4 (115 : Int32)) 5 (108 : Int32)) 6 (111 : Int32)) 7 (119 : Int32)) 8 (103 : Int32)) 9 (97 : Int32)) 10 (112 : Int32)) 11 (116 : Int32)) 12 (105 : Int32)) 13 (114 : Int32)) 14 (101 : Int32)) 15 (108 : Int32)) 16 (111 : Int32)) 17 (110 : Int32)))))] := bZ
  clear bZ b199
  have c203 := eZ.trans c200
  clear eZ
  refine Z_dup C dX12_init_295 rfl ?_
  refine Z_bipush C dX12_init_296 (v := (18 : Int32)) (by decide +kernel) ?_
  refine Z_bipush C dX12_init_298 (v := (103 : Int32)) (by decide +kernel) ?_
  refine Y_iast (k := 16) C b202 rfl (vp_in_iff.mpr ⟨by decide +kernel, by decide +kernel⟩) dX12_init_300 (fun ω204 bZ eZ => ?_)
  have b205 : BT ω0 ω204 h [(q10, .inl (vC (mV M) 0, (6, .inl (fun _ => 0)))), (q17, .inl (vC (mV M) 0, (6, .inl (fun _ => 0)))), (q24, .inl (vC (mV M) 0, (6, .inl (fun _ => 0)))), (q31, .inl (vC (mV M) 0, (6, .inl (fun _ => 0)))), (q38, .inl (vC (mV M) 0, (6, .inl (fun _ => 0)))), (q45, .inl (vC (mV M) 0, (6, .inl (fun _ => 0)))), (q52, .inl (vC (mV M) 0, (24, .inl (fun _ => 0)))), (q59, .inl (vC (mV M) 0, (6, .inl (fun _ => 0)))), (q81, .inl (vC (mV M) 0, (100, .inl (fun _ => 0)))), (q88, .inl (vC (mV M) 0, (6, .inl (fun _ => 0)))), (q95, .inl (vC (mV M) 0, (60, .inl (fun _ => 0)))), (q102, .inl (vC (mV M) 0, (60, .inl (fun _ => 0)))), (q109, .inl (vC (mV M) 0, (60, .inl (fun _ => 0)))), (q116, .inl (vC (mV M) 0, (60, .inl (fun _ => 0)))), (q123, .inl (vC (mV M) 0, (600, .inl (fun _ => 0)))), (q130, .inl (vC (mV M) 0, (101, .inl (fun _ => 0)))), (q146, .inl (vC (mV M) 0, (19, .inl (upd (upd (upd (upd (upd (upd (upd (upd (upd (upd (upd (upd (upd (upd (upd (upd (upd (upd (upd (fun _ => 0) 0 (102 : Int32)) 1 (97 : Int32)) 2 (115 : Int32)) 3 (116 : Int32)) 4 (115 : Int32)) 5 (108 : Int32)) 6 (111 : Int32)) 7 (119 : Int32)) 8 (103 : Int32)) 9 (97 : Int32)) 10 (112 : Int32)) 11 (116 : Int32)) 12 (105 : Int32)) 13 (114 : Int32)) 14 (101 : Int32)) 15 (108 : Int32)) 16 (111 : Int32)) 17 (110 : Int32)) 18 (103 : Int32)))))] := bZ
  clear bZ b202
  have c206 := eZ.trans c203
  clear eZ
  refine Y_putF C hI pf_X12_init_92 b205 c206 rfl rfl (Nat.le_of_ble_eq_true rfl) dX12_init_301 (fun ω207 bZ cZ => ?_)
  have b208 := bZ
  clear bZ b205
  have c209 : ω207.2 h = .inr (12, [.int (0 : Int32), .int (0 : Int32), .int (0 : Int32), .ref q10, .ref q17, .ref q24, .ref q31, .ref q38, .ref q45, .ref q52, .ref q59, .int (0 : Int32), .int (-1 : Int32), .int (0 : Int32), .int (0 : Int32), .int (0 : Int32), .ref q81, .ref q88, .ref q95, .ref q102, .ref q109, .ref q116, .ref q123, .ref q130, .int (0 : Int32), .int (0 : Int32), .int (0 : Int32), .ref q146, .int 0, .null, .int 0, .null, .null, .int 0, .null, .null, .null, .null, .null, .null, .null, .int 0, .null, .null, .null, .int 0, .int 0, .null, .null, .int 0, .int 0, .int 0, .int 0, .int 0, .int 0, .int 0, .null, .null, .null, .null, .null, .null, .null, .null, .null, .null, .null, .null, .null, .int 0, .null, .null, .null, .null, .null]) := cZ
  clear cZ
  refine Z_aload_n C dX12_init_304 0 rfl ?_
  refine Z_iconst C dX12_init_305 (v := (-1 : Int32)) (by decide +kernel) ?_
  refine Y_put C pa_X12_init_95 b208 c209 rfl rfl (Nat.le_of_ble_eq_true rfl) dX12_init_306 (fun ω210 bZ cZ => ?_)
  have b211 : BT ω0 ω210 h [(q10, .inl (vC (mV M) 0, (6, .inl (fun _ => 0)))), (q17, .inl (vC (mV M) 0, (6, .inl (fun _ => 0)))), (q24, .inl (vC (mV M) 0, (6, .inl (fun _ => 0)))), (q31, .inl (vC (mV M) 0, (6, .inl (fun _ => 0)))), (q38, .inl (vC (mV M) 0, (6, .inl (fun _ => 0)))), (q45, .inl (vC (mV M) 0, (6, .inl (fun _ => 0)))), (q52, .inl (vC (mV M) 0, (24, .inl (fun _ => 0)))), (q59, .inl (vC (mV M) 0, (6, .inl (fun _ => 0)))), (q81, .inl (vC (mV M) 0, (100, .inl (fun _ => 0)))), (q88, .inl (vC (mV M) 0, (6, .inl (fun _ => 0)))), (q95, .inl (vC (mV M) 0, (60, .inl (fun _ => 0)))), (q102, .inl (vC (mV M) 0, (60, .inl (fun _ => 0)))), (q109, .inl (vC (mV M) 0, (60, .inl (fun _ => 0)))), (q116, .inl (vC (mV M) 0, (60, .inl (fun _ => 0)))), (q123, .inl (vC (mV M) 0, (600, .inl (fun _ => 0)))), (q130, .inl (vC (mV M) 0, (101, .inl (fun _ => 0)))), (q146, .inl (vC (mV M) 0, (19, .inl (upd (upd (upd (upd (upd (upd (upd (upd (upd (upd (upd (upd (upd (upd (upd (upd (upd (upd (upd (fun _ => 0) 0 (102 : Int32)) 1 (97 : Int32)) 2 (115 : Int32)) 3 (116 : Int32)) 4 (115 : Int32)) 5 (108 : Int32)) 6 (111 : Int32)) 7 (119 : Int32)) 8 (103 : Int32)) 9 (97 : Int32)) 10 (112 : Int32)) 11 (116 : Int32)) 12 (105 : Int32)) 13 (114 : Int32)) 14 (101 : Int32)) 15 (108 : Int32)) 16 (111 : Int32)) 17 (110 : Int32)) 18 (103 : Int32)))))] := bZ
  clear bZ b208
  have c212 : ω210.2 h = .inr (12, [.int (0 : Int32), .int (0 : Int32), .int (0 : Int32), .ref q10, .ref q17, .ref q24, .ref q31, .ref q38, .ref q45, .ref q52, .ref q59, .int (0 : Int32), .int (-1 : Int32), .int (0 : Int32), .int (0 : Int32), .int (0 : Int32), .ref q81, .ref q88, .ref q95, .ref q102, .ref q109, .ref q116, .ref q123, .ref q130, .int (0 : Int32), .int (0 : Int32), .int (0 : Int32), .ref q146, .int (-1 : Int32), .null, .int 0, .null, .null, .int 0, .null, .null, .null, .null, .null, .null, .null, .int 0, .null, .null, .null, .int 0, .int 0, .null, .null, .int 0, .int 0, .int 0, .int 0, .int 0, .int 0, .int 0, .null, .null, .null, .null, .null, .null, .null, .null, .null, .null, .null, .null, .null, .int 0, .null, .null, .null, .null, .null]) := cZ
  clear cZ
  refine Z_aload_n C dX12_init_309 0 rfl ?_
  refine Z_bipush C dX12_init_310 (v := (100 : Int32)) (by decide +kernel) ?_
  refine Y_newa (t := 2) (a0 := (100, .inl (fun _ => 0))) C hU b211 (List.mem_of_getElem? (i := 34) rfl) rfl rfl (fun _ _ q => q) (fun _ => rfl) (by decide +kernel) rfl (by decide +kernel) (Nat.le_of_ble_eq_true rfl) (Nat.le_of_ble_eq_true rfl) dX12_init_312 (fun q213 ω214 bZ eZ => ?_)
  have b215 := bZ
  clear bZ b211
  have cZ := eZ.trans c212
  have c216 := cZ
  clear cZ eZ
  show PR M 314 [(0, .ref h)] [.ref q213, .ref h] ω214 (18, 1232)
  refine Y_putF C hI pf_X12_init_98 b215 c216 rfl rfl (Nat.le_of_ble_eq_true rfl) dX12_init_314 (fun ω217 bZ cZ => ?_)
  have b218 := bZ
  clear bZ b215
  have c219 : ω217.2 h = .inr (12, [.int (0 : Int32), .int (0 : Int32), .int (0 : Int32), .ref q10, .ref q17, .ref q24, .ref q31, .ref q38, .ref q45, .ref q52, .ref q59, .int (0 : Int32), .int (-1 : Int32), .int (0 : Int32), .int (0 : Int32), .int (0 : Int32), .ref q81, .ref q88, .ref q95, .ref q102, .ref q109, .ref q116, .ref q123, .ref q130, .int (0 : Int32), .int (0 : Int32), .int (0 : Int32), .ref q146, .int (-1 : Int32), .ref q213, .int 0, .null, .null, .int 0, .null, .null, .null, .null, .null, .null, .null, .int 0, .null, .null, .null, .int 0, .int 0, .null, .null, .int 0, .int 0, .int 0, .int 0, .int 0, .int 0, .int 0, .null, .null, .null, .null, .null, .null, .null, .null, .null, .null, .null, .null, .null, .int 0, .null, .null, .null, .null, .null]) := cZ
  clear cZ
  refine Z_aload_n C dX12_init_317 0 rfl ?_
  refine Z_iconst C dX12_init_318 (v := (0 : Int32)) (by decide +kernel) ?_
  refine Y_put C pa_X12_init_102 b218 c219 rfl rfl (Nat.le_of_ble_eq_true rfl) dX12_init_319 (fun ω220 bZ cZ => ?_)
  have b221 := bZ
  clear bZ b218
  have c222 : ω220.2 h = .inr (12, [.int (0 : Int32), .int (0 : Int32), .int (0 : Int32), .ref q10, .ref q17, .ref q24, .ref q31, .ref q38, .ref q45, .ref q52, .ref q59, .int (0 : Int32), .int (-1 : Int32), .int (0 : Int32), .int (0 : Int32), .int (0 : Int32), .ref q81, .ref q88, .ref q95, .ref q102, .ref q109, .ref q116, .ref q123, .ref q130, .int (0 : Int32), .int (0 : Int32), .int (0 : Int32), .ref q146, .int (-1 : Int32), .ref q213, .int (0 : Int32), .null, .null, .int 0, .null, .null, .null, .null, .null, .null, .null, .int 0, .null, .null, .null, .int 0, .int 0, .null, .null, .int 0, .int 0, .int 0, .int 0, .int 0, .int 0, .int 0, .null, .null, .null, .null, .null, .null, .null, .null, .null, .null, .null, .null, .null, .int 0, .null, .null, .null, .null, .null]) := cZ
  clear cZ
  refine Z_aload_n C dX12_init_322 0 rfl ?_
  refine Z_bipush C dX12_init_323 (v := (6 : Int32)) (by decide +kernel) ?_
  refine Y_newa (t := 0) (a0 := (6, .inl (fun _ => 0))) C hU b221 (List.mem_of_getElem? (i := 7) rfl) rfl rfl (fun _ _ q => q) (fun _ => rfl) (by decide +kernel) rfl (by decide +kernel) (Nat.le_of_ble_eq_true rfl) (Nat.le_of_ble_eq_true rfl) dX12_init_325 (fun q223 ω224 bZ eZ => ?_)
  have b225 := bZ
  clear bZ b221
  have cZ := eZ.trans c222
  have c226 := cZ
  clear cZ eZ
  show PR M 327 [(0, .ref h)] [.ref q223, .ref h] ω224 (19, 1238)
  refine Y_putF C hI pf_X12_init_105 b225 c226 rfl rfl (Nat.le_of_ble_eq_true rfl) dX12_init_327 (fun ω227 bZ cZ => ?_)
  have b228 : BT ω0 ω227 h [(q10, .inl (vC (mV M) 0, (6, .inl (fun _ => 0)))), (q17, .inl (vC (mV M) 0, (6, .inl (fun _ => 0)))), (q24, .inl (vC (mV M) 0, (6, .inl (fun _ => 0)))), (q31, .inl (vC (mV M) 0, (6, .inl (fun _ => 0)))), (q38, .inl (vC (mV M) 0, (6, .inl (fun _ => 0)))), (q45, .inl (vC (mV M) 0, (6, .inl (fun _ => 0)))), (q52, .inl (vC (mV M) 0, (24, .inl (fun _ => 0)))), (q59, .inl (vC (mV M) 0, (6, .inl (fun _ => 0)))), (q81, .inl (vC (mV M) 0, (100, .inl (fun _ => 0)))), (q88, .inl (vC (mV M) 0, (6, .inl (fun _ => 0)))), (q95, .inl (vC (mV M) 0, (60, .inl (fun _ => 0)))), (q102, .inl (vC (mV M) 0, (60, .inl (fun _ => 0)))), (q109, .inl (vC (mV M) 0, (60, .inl (fun _ => 0)))), (q116, .inl (vC (mV M) 0, (60, .inl (fun _ => 0)))), (q123, .inl (vC (mV M) 0, (600, .inl (fun _ => 0)))), (q130, .inl (vC (mV M) 0, (101, .inl (fun _ => 0)))), (q146, .inl (vC (mV M) 0, (19, .inl (upd (upd (upd (upd (upd (upd (upd (upd (upd (upd (upd (upd (upd (upd (upd (upd (upd (upd (upd (fun _ => 0) 0 (102 : Int32)) 1 (97 : Int32)) 2 (115 : Int32)) 3 (116 : Int32)) 4 (115 : Int32)) 5 (108 : Int32)) 6 (111 : Int32)) 7 (119 : Int32)) 8 (103 : Int32)) 9 (97 : Int32)) 10 (112 : Int32)) 11 (116 : Int32)) 12 (105 : Int32)) 13 (114 : Int32)) 14 (101 : Int32)) 15 (108 : Int32)) 16 (111 : Int32)) 17 (110 : Int32)) 18 (103 : Int32))))), (q213, .inl (vC (mV M) 2, (100, .inl (fun _ => 0)))), (q223, .inl (vC (mV M) 0, (6, .inl (fun _ => 0))))] := bZ
  clear bZ b225
  have c229 : ω227.2 h = .inr (12, [.int (0 : Int32), .int (0 : Int32), .int (0 : Int32), .ref q10, .ref q17, .ref q24, .ref q31, .ref q38, .ref q45, .ref q52, .ref q59, .int (0 : Int32), .int (-1 : Int32), .int (0 : Int32), .int (0 : Int32), .int (0 : Int32), .ref q81, .ref q88, .ref q95, .ref q102, .ref q109, .ref q116, .ref q123, .ref q130, .int (0 : Int32), .int (0 : Int32), .int (0 : Int32), .ref q146, .int (-1 : Int32), .ref q213, .int (0 : Int32), .ref q223, .null, .int 0, .null, .null, .null, .null, .null, .null, .null, .int 0, .null, .null, .null, .int 0, .int 0, .null, .null, .int 0, .int 0, .int 0, .int 0, .int 0, .int 0, .int 0, .null, .null, .null, .null, .null, .null, .null, .null, .null, .null, .null, .null, .null, .int 0, .null, .null, .null, .null, .null]) := cZ
  clear cZ
  refine Z_aload_n C dX12_init_330 0 rfl ?_
  refine Z_bipush C dX12_init_331 (v := (6 : Int32)) (by decide +kernel) ?_
  refine Y_newa (t := 0) (a0 := (6, .inl (fun _ => 0))) C hU b228 (List.mem_of_getElem? (i := 7) rfl) rfl rfl (fun _ _ q => q) (fun _ => rfl) (by decide +kernel) rfl (by decide +kernel) (Nat.le_of_ble_eq_true rfl) (Nat.le_of_ble_eq_true rfl) dX12_init_333 (fun q230 ω231 bZ eZ => ?_)
  have b232 := bZ
  clear bZ b228
  have cZ := eZ.trans c229
  have c233 := cZ
  clear cZ eZ
  show PR M 335 [(0, .ref h)] [.ref q230, .ref h] ω231 (20, 1244)
  refine Y_putF C hI pf_X12_init_108 b232 c233 rfl rfl (Nat.le_of_ble_eq_true rfl) dX12_init_335 (fun ω234 bZ cZ => ?_)
  have b235 := bZ
  clear bZ b232
  have c236 : ω234.2 h = .inr (12, [.int (0 : Int32), .int (0 : Int32), .int (0 : Int32), .ref q10, .ref q17, .ref q24, .ref q31, .ref q38, .ref q45, .ref q52, .ref q59, .int (0 : Int32), .int (-1 : Int32), .int (0 : Int32), .int (0 : Int32), .int (0 : Int32), .ref q81, .ref q88, .ref q95, .ref q102, .ref q109, .ref q116, .ref q123, .ref q130, .int (0 : Int32), .int (0 : Int32), .int (0 : Int32), .ref q146, .int (-1 : Int32), .ref q213, .int (0 : Int32), .ref q223, .ref q230, .int 0, .null, .null, .null, .null, .null, .null, .null, .int 0, .null, .null, .null, .int 0, .int 0, .null, .null, .int 0, .int 0, .int 0, .int 0, .int 0, .int 0, .int 0, .null, .null, .null, .null, .null, .null, .null, .null, .null, .null, .null, .null, .null, .int 0, .null, .null, .null, .null, .null]) := cZ
  clear cZ
  refine Z_aload_n C dX12_init_338 0 rfl ?_
  refine Z_iconst C dX12_init_339 (v := (0 : Int32)) (by decide +kernel) ?_
  refine Y_put C pa_X12_init_111 b235 c236 rfl rfl (Nat.le_of_ble_eq_true rfl) dX12_init_340 (fun ω237 bZ cZ => ?_)
  have b238 := bZ
  clear bZ b235
  have c239 : ω237.2 h = .inr (12, [.int (0 : Int32), .int (0 : Int32), .int (0 : Int32), .ref q10, .ref q17, .ref q24, .ref q31, .ref q38, .ref q45, .ref q52, .ref q59, .int (0 : Int32), .int (-1 : Int32), .int (0 : Int32), .int (0 : Int32), .int (0 : Int32), .ref q81, .ref q88, .ref q95, .ref q102, .ref q109, .ref q116, .ref q123, .ref q130, .int (0 : Int32), .int (0 : Int32), .int (0 : Int32), .ref q146, .int (-1 : Int32), .ref q213, .int (0 : Int32), .ref q223, .ref q230, .int (0 : Int32), .null, .null, .null, .null, .null, .null, .null, .int 0, .null, .null, .null, .int 0, .int 0, .null, .null, .int 0, .int 0, .int 0, .int 0, .int 0, .int 0, .int 0, .null, .null, .null, .null, .null, .null, .null, .null, .null, .null, .null, .null, .null, .int 0, .null, .null, .null, .null, .null]) := cZ
  clear cZ
  refine Z_aload_n C dX12_init_343 0 rfl ?_
  refine Z_bipush C dX12_init_344 (v := (6 : Int32)) (by decide +kernel) ?_
  refine Y_newa (t := 0) (a0 := (6, .inl (fun _ => 0))) C hU b238 (List.mem_of_getElem? (i := 7) rfl) rfl rfl (fun _ _ q => q) (fun _ => rfl) (by decide +kernel) rfl (by decide +kernel) (Nat.le_of_ble_eq_true rfl) (Nat.le_of_ble_eq_true rfl) dX12_init_346 (fun q240 ω241 bZ eZ => ?_)
  have b242 := bZ
  clear bZ b238
  have cZ := eZ.trans c239
  have c243 := cZ
  clear cZ eZ
  show PR M 348 [(0, .ref h)] [.ref q240, .ref h] ω241 (21, 1250)
  refine Y_putF C hI pf_X12_init_114 b242 c243 rfl rfl (Nat.le_of_ble_eq_true rfl) dX12_init_348 (fun ω244 bZ cZ => ?_)
  have b245 : BT ω0 ω244 h [(q10, .inl (vC (mV M) 0, (6, .inl (fun _ => 0)))), (q17, .inl (vC (mV M) 0, (6, .inl (fun _ => 0)))), (q24, .inl (vC (mV M) 0, (6, .inl (fun _ => 0)))), (q31, .inl (vC (mV M) 0, (6, .inl (fun _ => 0)))), (q38, .inl (vC (mV M) 0, (6, .inl (fun _ => 0)))), (q45, .inl (vC (mV M) 0, (6, .inl (fun _ => 0)))), (q52, .inl (vC (mV M) 0, (24, .inl (fun _ => 0)))), (q59, .inl (vC (mV M) 0, (6, .inl (fun _ => 0)))), (q81, .inl (vC (mV M) 0, (100, .inl (fun _ => 0)))), (q88, .inl (vC (mV M) 0, (6, .inl (fun _ => 0)))), (q95, .inl (vC (mV M) 0, (60, .inl (fun _ => 0)))), (q102, .inl (vC (mV M) 0, (60, .inl (fun _ => 0)))), (q109, .inl (vC (mV M) 0, (60, .inl (fun _ => 0)))), (q116, .inl (vC (mV M) 0, (60, .inl (fun _ => 0)))), (q123, .inl (vC (mV M) 0, (600, .inl (fun _ => 0)))), (q130, .inl (vC (mV M) 0, (101, .inl (fun _ => 0)))), (q146, .inl (vC (mV M) 0, (19, .inl (upd (upd (upd (upd (upd (upd (upd (upd (upd (upd (upd (upd (upd (upd (upd (upd (upd (upd (upd (fun _ => 0) 0 (102 : Int32)) 1 (97 : Int32)) 2 (115 : Int32)) 3 (116 : Int32)) 4 (115 : Int32)) 5 (108 : Int32)) 6 (111 : Int32)) 7 (119 : Int32)) 8 (103 : Int32)) 9 (97 : Int32)) 10 (112 : Int32)) 11 (116 : Int32)) 12 (105 : Int32)) 13 (114 : Int32)) 14 (101 : Int32)) 15 (108 : Int32)) 16 (111 : Int32)) 17 (110 : Int32)) 18 (103 : Int32))))), (q213, .inl (vC (mV M) 2, (100, .inl (fun _ => 0)))), (q223, .inl (vC (mV M) 0, (6, .inl (fun _ => 0)))), (q230, .inl (vC (mV M) 0, (6, .inl (fun _ => 0)))), (q240, .inl (vC (mV M) 0, (6, .inl (fun _ => 0))))] := bZ
  clear bZ b242
  have c246 : ω244.2 h = .inr (12, [.int (0 : Int32), .int (0 : Int32), .int (0 : Int32), .ref q10, .ref q17, .ref q24, .ref q31, .ref q38, .ref q45, .ref q52, .ref q59, .int (0 : Int32), .int (-1 : Int32), .int (0 : Int32), .int (0 : Int32), .int (0 : Int32), .ref q81, .ref q88, .ref q95, .ref q102, .ref q109, .ref q116, .ref q123, .ref q130, .int (0 : Int32), .int (0 : Int32), .int (0 : Int32), .ref q146, .int (-1 : Int32), .ref q213, .int (0 : Int32), .ref q223, .ref q230, .int (0 : Int32), .ref q240, .null, .null, .null, .null, .null, .null, .int 0, .null, .null, .null, .int 0, .int 0, .null, .null, .int 0, .int 0, .int 0, .int 0, .int 0, .int 0, .int 0, .null, .null, .null, .null, .null, .null, .null, .null, .null, .null, .null, .null, .null, .int 0, .null, .null, .null, .null, .null]) := cZ
  clear cZ
  refine Z_aload_n C dX12_init_351 0 rfl ?_
  refine Z_bipush C dX12_init_352 (v := (6 : Int32)) (by decide +kernel) ?_
  refine Y_newa (t := 0) (a0 := (6, .inl (fun _ => 0))) C hU b245 (List.mem_of_getElem? (i := 7) rfl) rfl rfl (fun _ _ q => q) (fun _ => rfl) (by decide +kernel) rfl (by decide +kernel) (Nat.le_of_ble_eq_true rfl) (Nat.le_of_ble_eq_true rfl) dX12_init_354 (fun q247 ω248 bZ eZ => ?_)
  have b249 := bZ
  clear bZ b245
  have cZ := eZ.trans c246
  have c250 := cZ
  clear cZ eZ
  show PR M 356 [(0, .ref h)] [.ref q247, .ref h] ω248 (22, 1256)
  refine Y_putF C hI pf_X12_init_117 b249 c250 rfl rfl (Nat.le_of_ble_eq_true rfl) dX12_init_356 (fun ω251 bZ cZ => ?_)
  have b252 := bZ
  clear bZ b249
  have c253 : ω251.2 h = .inr (12, [.int (0 : Int32), .int (0 : Int32), .int (0 : Int32), .ref q10, .ref q17, .ref q24, .ref q31, .ref q38, .ref q45, .ref q52, .ref q59, .int (0 : Int32), .int (-1 : Int32), .int (0 : Int32), .int (0 : Int32), .int (0 : Int32), .ref q81, .ref q88, .ref q95, .ref q102, .ref q109, .ref q116, .ref q123, .ref q130, .int (0 : Int32), .int (0 : Int32), .int (0 : Int32), .ref q146, .int (-1 : Int32), .ref q213, .int (0 : Int32), .ref q223, .ref q230, .int (0 : Int32), .ref q240, .ref q247, .null, .null, .null, .null, .null, .int 0, .null, .null, .null, .int 0, .int 0, .null, .null, .int 0, .int 0, .int 0, .int 0, .int 0, .int 0, .int 0, .null, .null, .null, .null, .null, .null, .null, .null, .null, .null, .null, .null, .null, .int 0, .null, .null, .null, .null, .null]) := cZ
  clear cZ
  refine Z_aload_n C dX12_init_359 0 rfl ?_
  refine Z_bipush C dX12_init_360 (v := (6 : Int32)) (by decide +kernel) ?_
  refine Y_newa (t := 0) (a0 := (6, .inl (fun _ => 0))) C hU b252 (List.mem_of_getElem? (i := 7) rfl) rfl rfl (fun _ _ q => q) (fun _ => rfl) (by decide +kernel) rfl (by decide +kernel) (Nat.le_of_ble_eq_true rfl) (Nat.le_of_ble_eq_true rfl) dX12_init_362 (fun q254 ω255 bZ eZ => ?_)
  have b256 := bZ
  clear bZ b252
  have cZ := eZ.trans c253
  have c257 := cZ
  clear cZ eZ
  show PR M 364 [(0, .ref h)] [.ref q254, .ref h] ω255 (23, 1262)
  refine Y_putF C hI pf_X12_init_120 b256 c257 rfl rfl (Nat.le_of_ble_eq_true rfl) dX12_init_364 (fun ω258 bZ cZ => ?_)
  have b259 := bZ
  clear bZ b256
  have c260 : ω258.2 h = .inr (12, [.int (0 : Int32), .int (0 : Int32), .int (0 : Int32), .ref q10, .ref q17, .ref q24, .ref q31, .ref q38, .ref q45, .ref q52, .ref q59, .int (0 : Int32), .int (-1 : Int32), .int (0 : Int32), .int (0 : Int32), .int (0 : Int32), .ref q81, .ref q88, .ref q95, .ref q102, .ref q109, .ref q116, .ref q123, .ref q130, .int (0 : Int32), .int (0 : Int32), .int (0 : Int32), .ref q146, .int (-1 : Int32), .ref q213, .int (0 : Int32), .ref q223, .ref q230, .int (0 : Int32), .ref q240, .ref q247, .ref q254, .null, .null, .null, .null, .int 0, .null, .null, .null, .int 0, .int 0, .null, .null, .int 0, .int 0, .int 0, .int 0, .int 0, .int 0, .int 0, .null, .null, .null, .null, .null, .null, .null, .null, .null, .null, .null, .null, .null, .int 0, .null, .null, .null, .null, .null]) := cZ
  clear cZ
  refine Z_aload_n C dX12_init_367 0 rfl ?_
  refine Z_bipush C dX12_init_368 (v := (6 : Int32)) (by decide +kernel) ?_
  refine Y_newa (t := 0) (a0 := (6, .inl (fun _ => 0))) C hU b259 (List.mem_of_getElem? (i := 7) rfl) rfl rfl (fun _ _ q => q) (fun _ => rfl) (by decide +kernel) rfl (by decide +kernel) (Nat.le_of_ble_eq_true rfl) (Nat.le_of_ble_eq_true rfl) dX12_init_370 (fun q261 ω262 bZ eZ => ?_)
  have b263 : BT ω0 ω262 h [(q10, .inl (vC (mV M) 0, (6, .inl (fun _ => 0)))), (q17, .inl (vC (mV M) 0, (6, .inl (fun _ => 0)))), (q24, .inl (vC (mV M) 0, (6, .inl (fun _ => 0)))), (q31, .inl (vC (mV M) 0, (6, .inl (fun _ => 0)))), (q38, .inl (vC (mV M) 0, (6, .inl (fun _ => 0)))), (q45, .inl (vC (mV M) 0, (6, .inl (fun _ => 0)))), (q52, .inl (vC (mV M) 0, (24, .inl (fun _ => 0)))), (q59, .inl (vC (mV M) 0, (6, .inl (fun _ => 0)))), (q81, .inl (vC (mV M) 0, (100, .inl (fun _ => 0)))), (q88, .inl (vC (mV M) 0, (6, .inl (fun _ => 0)))), (q95, .inl (vC (mV M) 0, (60, .inl (fun _ => 0)))), (q102, .inl (vC (mV M) 0, (60, .inl (fun _ => 0)))), (q109, .inl (vC (mV M) 0, (60, .inl (fun _ => 0)))), (q116, .inl (vC (mV M) 0, (60, .inl (fun _ => 0)))), (q123, .inl (vC (mV M) 0, (600, .inl (fun _ => 0)))), (q130, .inl (vC (mV M) 0, (101, .inl (fun _ => 0)))), (q146, .inl (vC (mV M) 0, (19, .inl (upd (upd (upd (upd (upd (upd (upd (upd (upd (upd (upd (upd (upd (upd (upd (upd (upd (upd (upd (fun _ => 0) 0 (102 : Int32)) 1 (97 : Int32)) 2 (115 : Int32)) 3 (116 : Int32)) 4 (115 : Int32)) 5 (108 : Int32)) 6 (111 : Int32)) 7 (119 : Int32)) 8 (103 : Int32)) 9 (97 : Int32)) 10 (112 : Int32)) 11 (116 : Int32)) 12 (105 : Int32)) 13 (114 : Int32)) 14 (101 : Int32)) 15 (108 : Int32)) 16 (111 : Int32)) 17 (110 : Int32)) 18 (103 : Int32))))), (q213, .inl (vC (mV M) 2, (100, .inl (fun _ => 0)))), (q223, .inl (vC (mV M) 0, (6, .inl (fun _ => 0)))), (q230, .inl (vC (mV M) 0, (6, .inl (fun _ => 0)))), (q240, .inl (vC (mV M) 0, (6, .inl (fun _ => 0)))), (q247, .inl (vC (mV M) 0, (6, .inl (fun _ => 0)))), (q254, .inl (vC (mV M) 0, (6, .inl (fun _ => 0)))), (q261, .inl (vC (mV M) 0, (6, .inl (fun _ => 0))))] := bZ
  clear bZ b259
  have cZ := eZ.trans c260
  have c264 := cZ
  clear cZ eZ
  show PR M 372 [(0, .ref h)] [.ref q261, .ref h] ω262 (24, 1268)
  refine Y_putF C hI pf_X12_init_123 b263 c264 rfl rfl (Nat.le_of_ble_eq_true rfl) dX12_init_372 (fun ω265 bZ cZ => ?_)
  have b266 := bZ
  clear bZ b263
  have c267 : ω265.2 h = .inr (12, [.int (0 : Int32), .int (0 : Int32), .int (0 : Int32), .ref q10, .ref q17, .ref q24, .ref q31, .ref q38, .ref q45, .ref q52, .ref q59, .int (0 : Int32), .int (-1 : Int32), .int (0 : Int32), .int (0 : Int32), .int (0 : Int32), .ref q81, .ref q88, .ref q95, .ref q102, .ref q109, .ref q116, .ref q123, .ref q130, .int (0 : Int32), .int (0 : Int32), .int (0 : Int32), .ref q146, .int (-1 : Int32), .ref q213, .int (0 : Int32), .ref q223, .ref q230, .int (0 : Int32), .ref q240, .ref q247, .ref q254, .ref q261, .null, .null, .null, .int 0, .null, .null, .null, .int 0, .int 0, .null, .null, .int 0, .int 0, .int 0, .int 0, .int 0, .int 0, .int 0, .null, .null, .null, .null, .null, .null, .null, .null, .null, .null, .null, .null, .null, .int 0, .null, .null, .null, .null, .null]) := cZ
  clear cZ
  refine Z_aload_n C dX12_init_375 0 rfl ?_
  refine Z_bipush C dX12_init_376 (v := (6 : Int32)) (by decide +kernel) ?_
  refine Y_newa (t := 0) (a0 := (6, .inl (fun _ => 0))) C hU b266 (List.mem_of_getElem? (i := 7) rfl) rfl rfl (fun _ _ q => q) (fun _ => rfl) (by decide +kernel) rfl (by decide +kernel) (Nat.le_of_ble_eq_true rfl) (Nat.le_of_ble_eq_true rfl) dX12_init_378 (fun q268 ω269 bZ eZ => ?_)
  have b270 := bZ
  clear bZ b266
  have cZ := eZ.trans c267
  have c271 := cZ
  clear cZ eZ
  show PR M 380 [(0, .ref h)] [.ref q268, .ref h] ω269 (25, 1274)
  refine Y_putF C hI pf_X12_init_126 b270 c271 rfl rfl (Nat.le_of_ble_eq_true rfl) dX12_init_380 (fun ω272 bZ cZ => ?_)
  have b273 := bZ
  clear bZ b270
  have c274 : ω272.2 h = .inr (12, [.int (0 : Int32), .int (0 : Int32), .int (0 : Int32), .ref q10, .ref q17, .ref q24, .ref q31, .ref q38, .ref q45, .ref q52, .ref q59, .int (0 : Int32), .int (-1 : Int32), .int (0 : Int32), .int (0 : Int32), .int (0 : Int32), .ref q81, .ref q88, .ref q95, .ref q102, .ref q109, .ref q116, .ref q123, .ref q130, .int (0 : Int32), .int (0 : Int32), .int (0 : Int32), .ref q146, .int (-1 : Int32), .ref q213, .int (0 : Int32), .ref q223, .ref q230, .int (0 : Int32), .ref q240, .ref q247, .ref q254, .ref q261, .ref q268, .null, .null, .int 0, .null, .null, .null, .int 0, .int 0, .null, .null, .int 0, .int 0, .int 0, .int 0, .int 0, .int 0, .int 0, .null, .null, .null, .null, .null, .null, .null, .null, .null, .null, .null, .null, .null, .int 0, .null, .null, .null, .null, .null]) := cZ
  clear cZ
  refine Z_aload_n C dX12_init_383 0 rfl ?_
  refine Z_bipush C dX12_init_384 (v := (6 : Int32)) (by decide +kernel) ?_
  refine Y_newa (t := 0) (a0 := (6, .inl (fun _ => 0))) C hU b273 (List.mem_of_getElem? (i := 7) rfl) rfl rfl (fun _ _ q => q) (fun _ => rfl) (by decide +kernel) rfl (by decide +kernel) (Nat.le_of_ble_eq_true rfl) (Nat.le_of_ble_eq_true rfl) dX12_init_386 (fun q275 ω276 bZ eZ => ?_)
  have b277 := bZ
  clear bZ b273
  have cZ := eZ.trans c274
  have c278 := cZ
  clear cZ eZ
  show PR M 388 [(0, .ref h)] [.ref q275, .ref h] ω276 (26, 1280)
  refine Y_putF C hI pf_X12_init_129 b277 c278 rfl rfl (Nat.le_of_ble_eq_true rfl) dX12_init_388 (fun ω279 bZ cZ => ?_)
  have b280 : BT ω0 ω279 h [(q10, .inl (vC (mV M) 0, (6, .inl (fun _ => 0)))), (q17, .inl (vC (mV M) 0, (6, .inl (fun _ => 0)))), (q24, .inl (vC (mV M) 0, (6, .inl (fun _ => 0)))), (q31, .inl (vC (mV M) 0, (6, .inl (fun _ => 0)))), (q38, .inl (vC (mV M) 0, (6, .inl (fun _ => 0)))), (q45, .inl (vC (mV M) 0, (6, .inl (fun _ => 0)))), (q52, .inl (vC (mV M) 0, (24, .inl (fun _ => 0)))), (q59, .inl (vC (mV M) 0, (6, .inl (fun _ => 0)))), (q81, .inl (vC (mV M) 0, (100, .inl (fun _ => 0)))), (q88, .inl (vC (mV M) 0, (6, .inl (fun _ => 0)))), (q95, .inl (vC (mV M) 0, (60, .inl (fun _ => 0)))), (q102, .inl (vC (mV M) 0, (60, .inl (fun _ => 0)))), (q109, .inl (vC (mV M) 0, (60, .inl (fun _ => 0)))), (q116, .inl (vC (mV M) 0, (60, .inl (fun _ => 0)))), (q123, .inl (vC (mV M) 0, (600, .inl (fun _ => 0)))), (q130, .inl (vC (mV M) 0, (101, .inl (fun _ => 0)))), (q146, .inl (vC (mV M) 0, (19, .inl (upd (upd (upd (upd (upd (upd (upd (upd (upd (upd (upd (upd (upd (upd (upd (upd (upd (upd (upd (fun _ => 0) 0 (102 : Int32)) 1 (97 : Int32)) 2 (115 : Int32)) 3 (116 : Int32)) 4 (115 : Int32)) 5 (108 : Int32)) 6 (111 : Int32)) 7 (119 : Int32)) 8 (103 : Int32)) 9 (97 : Int32)) 10 (112 : Int32)) 11 (116 : Int32)) 12 (105 : Int32)) 13 (114 : Int32)) 14 (101 : Int32)) 15 (108 : Int32)) 16 (111 : Int32)) 17 (110 : Int32)) 18 (103 : Int32))))), (q213, .inl (vC (mV M) 2, (100, .inl (fun _ => 0)))), (q223, .inl (vC (mV M) 0, (6, .inl (fun _ => 0)))), (q230, .inl (vC (mV M) 0, (6, .inl (fun _ => 0)))), (q240, .inl (vC (mV M) 0, (6, .inl (fun _ => 0)))), (q247, .inl (vC (mV M) 0, (6, .inl (fun _ => 0)))), (q254, .inl (vC (mV M) 0, (6, .inl (fun _ => 0)))), (q261, .inl (vC (mV M) 0, (6, .inl (fun _ => 0)))), (q268, .inl (vC (mV M) 0, (6, .inl (fun _ => 0)))), (q275, .inl (vC (mV M) 0, (6, .inl (fun _ => 0))))] := bZ
  clear bZ b277
  have c281 : ω279.2 h = .inr (12, [.int (0 : Int32), .int (0 : Int32), .int (0 : Int32), .ref q10, .ref q17, .ref q24, .ref q31, .ref q38, .ref q45, .ref q52, .ref q59, .int (0 : Int32), .int (-1 : Int32), .int (0 : Int32), .int (0 : Int32), .int (0 : Int32), .ref q81, .ref q88, .ref q95, .ref q102, .ref q109, .ref q116, .ref q123, .ref q130, .int (0 : Int32), .int (0 : Int32), .int (0 : Int32), .ref q146, .int (-1 : Int32), .ref q213, .int (0 : Int32), .ref q223, .ref q230, .int (0 : Int32), .ref q240, .ref q247, .ref q254, .ref q261, .ref q268, .ref q275, .null, .int 0, .null, .null, .null, .int 0, .int 0, .null, .null, .int 0, .int 0, .int 0, .int 0, .int 0, .int 0, .int 0, .null, .null, .null, .null, .null, .null, .null, .null, .null, .null, .null, .null, .null, .int 0, .null, .null, .null, .null, .null]) := cZ
  clear cZ
  refine Z_aload_n C dX12_init_391 0 rfl ?_
  refine Z_bipush C dX12_init_392 (v := (6 : Int32)) (by decide +kernel) ?_
  refine Y_newa (t := 0) (a0 := (6, .inl (fun _ => 0))) C hU b280 (List.mem_of_getElem? (i := 7) rfl) rfl rfl (fun _ _ q => q) (fun _ => rfl) (by decide +kernel) rfl (by decide +kernel) (Nat.le_of_ble_eq_true rfl) (Nat.le_of_ble_eq_true rfl) dX12_init_394 (fun q282 ω283 bZ eZ => ?_)
  have b284 := bZ
  clear bZ b280
  have cZ := eZ.trans c281
  have c285 := cZ
  clear cZ eZ
  show PR M 396 [(0, .ref h)] [.ref q282, .ref h] ω283 (27, 1286)
  refine Y_putF C hI pf_X12_init_132 b284 c285 rfl rfl (Nat.le_of_ble_eq_true rfl) dX12_init_396 (fun ω286 bZ cZ => ?_)
  have b287 := bZ
  clear bZ b284
  have c288 : ω286.2 h = .inr (12, [.int (0 : Int32), .int (0 : Int32), .int (0 : Int32), .ref q10, .ref q17, .ref q24, .ref q31, .ref q38, .ref q45, .ref q52, .ref q59, .int (0 : Int32), .int (-1 : Int32), .int (0 : Int32), .int (0 : Int32), .int (0 : Int32), .ref q81, .ref q88, .ref q95, .ref q102, .ref q109, .ref q116, .ref q123, .ref q130, .int (0 : Int32), .int (0 : Int32), .int (0 : Int32), .ref q146, .int (-1 : Int32), .ref q213, .int (0 : Int32), .ref q223, .ref q230, .int (0 : Int32), .ref q240, .ref q247, .ref q254, .ref q261, .ref q268, .ref q275, .ref q282, .int 0, .null, .null, .null, .int 0, .int 0, .null, .null, .int 0, .int 0, .int 0, .int 0, .int 0, .int 0, .int 0, .null, .null, .null, .null, .null, .null, .null, .null, .null, .null, .null, .null, .null, .int 0, .null, .null, .null, .null, .null]) := cZ
  clear cZ
  refine Z_aload_n C dX12_init_399 0 rfl ?_
  refine Z_iconst C dX12_init_400 (v := (0 : Int32)) (by decide +kernel) ?_
  refine Y_put C pa_X12_init_135 b287 c288 rfl rfl (Nat.le_of_ble_eq_true rfl) dX12_init_401 (fun ω289 bZ cZ => ?_)
  have b290 := bZ
  clear bZ b287
  have c291 : ω289.2 h = .inr (12, [.int (0 : Int32), .int (0 : Int32), .int (0 : Int32), .ref q10, .ref q17, .ref q24, .ref q31, .ref q38, .ref q45, .ref q52, .ref q59, .int (0 : Int32), .int (-1 : Int32), .int (0 : Int32), .int (0 : Int32), .int (0 : Int32), .ref q81, .ref q88, .ref q95, .ref q102, .ref q109, .ref q116, .ref q123, .ref q130, .int (0 : Int32), .int (0 : Int32), .int (0 : Int32), .ref q146, .int (-1 : Int32), .ref q213, .int (0 : Int32), .ref q223, .ref q230, .int (0 : Int32), .ref q240, .ref q247, .ref q254, .ref q261, .ref q268, .ref q275, .ref q282, .int (0 : Int32), .null, .null, .null, .int 0, .int 0, .null, .null, .int 0, .int 0, .int 0, .int 0, .int 0, .int 0, .int 0, .null, .null, .null, .null, .null, .null, .null, .null, .null, .null, .null, .null, .null, .int 0, .null, .null, .null, .null, .null]) := cZ
  clear cZ
  refine Z_aload_n C dX12_init_404 0 rfl ?_
  refine Z_bipush C dX12_init_405 (v := (6 : Int32)) (by decide +kernel) ?_
  refine Y_newa (t := 0) (a0 := (6, .inl (fun _ => 0))) C hU b290 (List.mem_of_getElem? (i := 7) rfl) rfl rfl (fun _ _ q => q) (fun _ => rfl) (by decide +kernel) rfl (by decide +kernel) (Nat.le_of_ble_eq_true rfl) (Nat.le_of_ble_eq_true rfl) dX12_init_407 (fun q292 ω293 bZ eZ => ?_)
  have b294 := bZ
  clear bZ b290
  have cZ := eZ.trans c291
  have c295 := cZ
  clear cZ eZ
  show PR M 409 [(0, .ref h)] [.ref q292, .ref h] ω293 (28, 1292)
  refine Y_putF C hI pf_X12_init_138 b294 c295 rfl rfl (Nat.le_of_ble_eq_true rfl) dX12_init_409 (fun ω296 bZ cZ => ?_)
  have b297 : BT ω0 ω296 h [(q10, .inl (vC (mV M) 0, (6, .inl (fun _ => 0)))), (q17, .inl (vC (mV M) 0, (6, .inl (fun _ => 0)))), (q24, .inl (vC (mV M) 0, (6, .inl (fun _ => 0)))), (q31, .inl (vC (mV M) 0, (6, .inl (fun _ => 0)))), (q38, .inl (vC (mV M) 0, (6, .inl (fun _ => 0)))), (q45, .inl (vC (mV M) 0, (6, .inl (fun _ => 0)))), (q52, .inl (vC (mV M) 0, (24, .inl (fun _ => 0)))), (q59, .inl (vC (mV M) 0, (6, .inl (fun _ => 0)))), (q81, .inl (vC (mV M) 0, (100, .inl (fun _ => 0)))), (q88, .inl (vC (mV M) 0, (6, .inl (fun _ => 0)))), (q95, .inl (vC (mV M) 0, (60, .inl (fun _ => 0)))), (q102, .inl (vC (mV M) 0, (60, .inl (fun _ => 0)))), (q109, .inl (vC (mV M) 0, (60, .inl (fun _ => 0)))), (q116, .inl (vC (mV M) 0, (60, .inl (fun _ => 0)))), (q123, .inl (vC (mV M) 0, (600, .inl (fun _ => 0)))), (q130, .inl (vC (mV M) 0, (101, .inl (fun _ => 0)))), (q146, .inl (vC (mV M) 0, (19, .inl (upd (upd (upd (upd (upd (upd (upd (upd (upd (upd (upd (upd (upd (upd (upd (upd (upd (upd (upd (fun _ => 0) 0 (102 : Int32)) 1 (97 : Int32)) 2 (115 : Int32)) 3 (116 : Int32)) 4 (115 : Int32)) 5 (108 : Int32)) 6 (111 : Int32)) 7 (119 : Int32)) 8 (103 : Int32)) 9 (97 : Int32)) 10 (112 : Int32)) 11 (116 : Int32)) 12 (105 : Int32)) 13 (114 : Int32)) 14 (101 : Int32)) 15 (108 : Int32)) 16 (111 : Int32)) 17 (110 : Int32)) 18 (103 : Int32))))), (q213, .inl (vC (mV M) 2, (100, .inl (fun _ => 0)))), (q223, .inl (vC (mV M) 0, (6, .inl (fun _ => 0)))), (q230, .inl (vC (mV M) 0, (6, .inl (fun _ => 0)))), (q240, .inl (vC (mV M) 0, (6, .inl (fun _ => 0)))), (q247, .inl (vC (mV M) 0, (6, .inl (fun _ => 0)))), (q254, .inl (vC (mV M) 0, (6, .inl (fun _ => 0)))), (q261, .inl (vC (mV M) 0, (6, .inl (fun _ => 0)))), (q268, .inl (vC (mV M) 0, (6, .inl (fun _ => 0)))), (q275, .inl (vC (mV M) 0, (6, .inl (fun _ => 0)))), (q282, .inl (vC (mV M) 0, (6, .inl (fun _ => 0)))), (q292, .inl (vC (mV M) 0, (6, .inl (fun _ => 0))))] := bZ
  clear bZ b294
  have c298 : ω296.2 h = .inr (12, [.int (0 : Int32), .int (0 : Int32), .int (0 : Int32), .ref q10, .ref q17, .ref q24, .ref q31, .ref q38, .ref q45, .ref q52, .ref q59, .int (0 : Int32), .int (-1 : Int32), .int (0 : Int32), .int (0 : Int32), .int (0 : Int32), .ref q81, .ref q88, .ref q95, .ref q102, .ref q109, .ref q116, .ref q123, .ref q130, .int (0 : Int32), .int (0 : Int32), .int (0 : Int32), .ref q146, .int (-1 : Int32), .ref q213, .int (0 : Int32), .ref q223, .ref q230, .int (0 : Int32), .ref q240, .ref q247, .ref q254, .ref q261, .ref q268, .ref q275, .ref q282, .int (0 : Int32), .ref q292, .null, .null, .int 0, .int 0, .null, .null, .int 0, .int 0, .int 0, .int 0, .int 0, .int 0, .int 0, .null, .null, .null, .null, .null, .null, .null, .null, .null, .null, .null, .null, .null, .int 0, .null, .null, .null, .null, .null]) := cZ
  clear cZ
  refine Z_aload_n C dX12_init_412 0 rfl ?_
  refine Z_bipush C dX12_init_413 (v := (6 : Int32)) (by decide +kernel) ?_
  refine Y_newa (t := 0) (a0 := (6, .inl (fun _ => 0))) C hU b297 (List.mem_of_getElem? (i := 7) rfl) rfl rfl (fun _ _ q => q) (fun _ => rfl) (by decide +kernel) rfl (by decide +kernel) (Nat.le_of_ble_eq_true rfl) (Nat.le_of_ble_eq_true rfl) dX12_init_415 (fun q299 ω300 bZ eZ => ?_)
  have b301 := bZ
  clear bZ b297
  have cZ := eZ.trans c298
  have c302 := cZ
  clear cZ eZ
  show PR M 417 [(0, .ref h)] [.ref q299, .ref h] ω300 (29, 1298)
  refine Y_putF C hI pf_X12_init_141 b301 c302 rfl rfl (Nat.le_of_ble_eq_true rfl) dX12_init_417 (fun ω303 bZ cZ => ?_)
  have b304 := bZ
  clear bZ b301
  have c305 : ω303.2 h = .inr (12, [.int (0 : Int32), .int (0 : Int32), .int (0 : Int32), .ref q10, .ref q17, .ref q24, .ref q31, .ref q38, .ref q45, .ref q52, .ref q59, .int (0 : Int32), .int (-1 : Int32), .int (0 : Int32), .int (0 : Int32), .int (0 : Int32), .ref q81, .ref q88, .ref q95, .ref q102, .ref q109, .ref q116, .ref q123, .ref q130, .int (0 : Int32), .int (0 : Int32), .int (0 : Int32), .ref q146, .int (-1 : Int32), .ref q213, .int (0 : Int32), .ref q223, .ref q230, .int (0 : Int32), .ref q240, .ref q247, .ref q254, .ref q261, .ref q268, .ref q275, .ref q282, .int (0 : Int32), .ref q292, .ref q299, .null, .int 0, .int 0, .null, .null, .int 0, .int 0, .int 0, .int 0, .int 0, .int 0, .int 0, .null, .null, .null, .null, .null, .null, .null, .null, .null, .null, .null, .null, .null, .int 0, .null, .null, .null, .null, .null]) := cZ
  clear cZ
  refine Z_aload_n C dX12_init_420 0 rfl ?_
  refine Z_bipush C dX12_init_421 (v := (6 : Int32)) (by decide +kernel) ?_
  refine Y_newa (t := 0) (a0 := (6, .inl (fun _ => 0))) C hU b304 (List.mem_of_getElem? (i := 7) rfl) rfl rfl (fun _ _ q => q) (fun _ => rfl) (by decide +kernel) rfl (by decide +kernel) (Nat.le_of_ble_eq_true rfl) (Nat.le_of_ble_eq_true rfl) dX12_init_423 (fun q306 ω307 bZ eZ => ?_)
  have b308 := bZ
  clear bZ b304
  have cZ := eZ.trans c305
  have c309 := cZ
  clear cZ eZ
  show PR M 425 [(0, .ref h)] [.ref q306, .ref h] ω307 (30, 1304)
  refine Y_putF C hI pf_X12_init_144 b308 c309 rfl rfl (Nat.le_of_ble_eq_true rfl) dX12_init_425 (fun ω310 bZ cZ => ?_)
  have b311 := bZ
  clear bZ b308
  have c312 : ω310.2 h = .inr (12, [.int (0 : Int32), .int (0 : Int32), .int (0 : Int32), .ref q10, .ref q17, .ref q24, .ref q31, .ref q38, .ref q45, .ref q52, .ref q59, .int (0 : Int32), .int (-1 : Int32), .int (0 : Int32), .int (0 : Int32), .int (0 : Int32), .ref q81, .ref q88, .ref q95, .ref q102, .ref q109, .ref q116, .ref q123, .ref q130, .int (0 : Int32), .int (0 : Int32), .int (0 : Int32), .ref q146, .int (-1 : Int32), .ref q213, .int (0 : Int32), .ref q223, .ref q230, .int (0 : Int32), .ref q240, .ref q247, .ref q254, .ref q261, .ref q268, .ref q275, .ref q282, .int (0 : Int32), .ref q292, .ref q299, .ref q306, .int 0, .int 0, .null, .null, .int 0, .int 0, .int 0, .int 0, .int 0, .int 0, .int 0, .null, .null, .null, .null, .null, .null, .null, .null, .null, .null, .null, .null, .null, .int 0, .null, .null, .null, .null, .null]) := cZ
  clear cZ
  refine Z_aload_n C dX12_init_428 0 rfl ?_
  refine Z_iconst C dX12_init_429 (v := (0 : Int32)) (by decide +kernel) ?_
  refine Y_put C pa_X12_init_147 b311 c312 rfl rfl (Nat.le_of_ble_eq_true rfl) dX12_init_430 (fun ω313 bZ cZ => ?_)
  have b314 : BT ω0 ω313 h [(q10, .inl (vC (mV M) 0, (6, .inl (fun _ => 0)))), (q17, .inl (vC (mV M) 0, (6, .inl (fun _ => 0)))), (q24, .inl (vC (mV M) 0, (6, .inl (fun _ => 0)))), (q31, .inl (vC (mV M) 0, (6, .inl (fun _ => 0)))), (q38, .inl (vC (mV M) 0, (6, .inl (fun _ => 0)))), (q45, .inl (vC (mV M) 0, (6, .inl (fun _ => 0)))), (q52, .inl (vC (mV M) 0, (24, .inl (fun _ => 0)))), (q59, .inl (vC (mV M) 0, (6, .inl (fun _ => 0)))), (q81, .inl (vC (mV M) 0, (100, .inl (fun _ => 0)))), (q88, .inl (vC (mV M) 0, (6, .inl (fun _ => 0)))), (q95, .inl (vC (mV M) 0, (60, .inl (fun _ => 0)))), (q102, .inl (vC (mV M) 0, (60, .inl (fun _ => 0)))), (q109, .inl (vC (mV M) 0, (60, .inl (fun _ => 0)))), (q116, .inl (vC (mV M) 0, (60, .inl (fun _ => 0)))), (q123, .inl (vC (mV M) 0, (600, .inl (fun _ => 0)))), (q130, .inl (vC (mV M) 0, (101, .inl (fun _ => 0)))), (q146, .inl (vC (mV M) 0, (19, .inl (upd (upd (upd (upd (upd (upd (upd (upd (upd (upd (upd (upd (upd (upd (upd (upd (upd (upd (upd (fun _ => 0) 0 (102 : Int32)) 1 (97 : Int32)) 2 (115 : Int32)) 3 (116 : Int32)) 4 (115 : Int32)) 5 (108 : Int32)) 6 (111 : Int32)) 7 (119 : Int32)) 8 (103 : Int32)) 9 (97 : Int32)) 10 (112 : Int32)) 11 (116 : Int32)) 12 (105 : Int32)) 13 (114 : Int32)) 14 (101 : Int32)) 15 (108 : Int32)) 16 (111 : Int32)) 17 (110 : Int32)) 18 (103 : Int32))))), (q213, .inl (vC (mV M) 2, (100, .inl (fun _ => 0)))), (q223, .inl (vC (mV M) 0, (6, .inl (fun _ => 0)))), (q230, .inl (vC (mV M) 0, (6, .inl (fun _ => 0)))), (q240, .inl (vC (mV M) 0, (6, .inl (fun _ => 0)))), (q247, .inl (vC (mV M) 0, (6, .inl (fun _ => 0)))), (q254, .inl (vC (mV M) 0, (6, .inl (fun _ => 0)))), (q261, .inl (vC (mV M) 0, (6, .inl (fun _ => 0)))), (q268, .inl (vC (mV M) 0, (6, .inl (fun _ => 0)))), (q275, .inl (vC (mV M) 0, (6, .inl (fun _ => 0)))), (q282, .inl (vC (mV M) 0, (6, .inl (fun _ => 0)))), (q292, .inl (vC (mV M) 0, (6, .inl (fun _ => 0)))), (q299, .inl (vC (mV M) 0, (6, .inl (fun _ => 0)))), (q306, .inl (vC (mV M) 0, (6, .inl (fun _ => 0))))] := bZ
  clear bZ b311
  have c315 : ω313.2 h = .inr (12, [.int (0 : Int32), .int (0 : Int32), .int (0 : Int32), .ref q10, .ref q17, .ref q24, .ref q31, .ref q38, .ref q45, .ref q52, .ref q59, .int (0 : Int32), .int (-1 : Int32), .int (0 : Int32), .int (0 : Int32), .int (0 : Int32), .ref q81, .ref q88, .ref q95, .ref q102, .ref q109, .ref q116, .ref q123, .ref q130, .int (0 : Int32), .int (0 : Int32), .int (0 : Int32), .ref q146, .int (-1 : Int32), .ref q213, .int (0 : Int32), .ref q223, .ref q230, .int (0 : Int32), .ref q240, .ref q247, .ref q254, .ref q261, .ref q268, .ref q275, .ref q282, .int (0 : Int32), .ref q292, .ref q299, .ref q306, .int (0 : Int32), .int 0, .null, .null, .int 0, .int 0, .int 0, .int 0, .int 0, .int 0, .int 0, .null, .null, .null, .null, .null, .null, .null, .null, .null, .null, .null, .null, .null, .int 0, .null, .null, .null, .null, .null]) := cZ
  clear cZ
  refine Z_aload_n C dX12_init_433 0 rfl ?_
  refine Z_iconst C dX12_init_434 (v := (0 : Int32)) (by decide +kernel) ?_
  refine Y_put C pa_X12_init_150 b314 c315 rfl rfl (Nat.le_of_ble_eq_true rfl) dX12_init_435 (fun ω316 bZ cZ => ?_)
  have b317 := bZ
  clear bZ b314
  have c318 : ω316.2 h = .inr (12, [.int (0 : Int32), .int (0 : Int32), .int (0 : Int32), .ref q10, .ref q17, .ref q24, .ref q31, .ref q38, .ref q45, .ref q52, .ref q59, .int (0 : Int32), .int (-1 : Int32), .int (0 : Int32), .int (0 : Int32), .int (0 : Int32), .ref q81, .ref q88, .ref q95, .ref q102, .ref q109, .ref q116, .ref q123, .ref q130, .int (0 : Int32), .int (0 : Int32), .int (0 : Int32), .ref q146, .int (-1 : Int32), .ref q213, .int (0 : Int32), .ref q223, .ref q230, .int (0 : Int32), .ref q240, .ref q247, .ref q254, .ref q261, .ref q268, .ref q275, .ref q282, .int (0 : Int32), .ref q292, .ref q299, .ref q306, .int (0 : Int32), .int (0 : Int32), .null, .null, .int 0, .int 0, .int 0, .int 0, .int 0, .int 0, .int 0, .null, .null, .null, .null, .null, .null, .null, .null, .null, .null, .null, .null, .null, .int 0, .null, .null, .null, .null, .null]) := cZ
  clear cZ
  refine Z_aload_n C dX12_init_438 0 rfl ?_
  refine Z_bipush C dX12_init_439 (v := (10 : Int32)) (by decide +kernel) ?_
  refine Y_newa (t := 0) (a0 := (10, .inl (fun _ => 0))) C hU b317 (List.mem_of_getElem? (i := 7) rfl) rfl rfl (fun _ _ q => q) (fun _ => rfl) (by decide +kernel) rfl (by decide +kernel) (Nat.le_of_ble_eq_true rfl) (Nat.le_of_ble_eq_true rfl) dX12_init_441 (fun q319 ω320 bZ eZ => ?_)
  have b321 := bZ
  clear bZ b317
  have cZ := eZ.trans c318
  have c322 := cZ
  clear cZ eZ
  show PR M 443 [(0, .ref h)] [.ref q319, .ref h] ω320 (31, 1314)
  refine Y_putF C hI pf_X12_init_153 b321 c322 rfl rfl (Nat.le_of_ble_eq_true rfl) dX12_init_443 (fun ω323 bZ cZ => ?_)
  have b324 := bZ
  clear bZ b321
  have c325 : ω323.2 h = .inr (12, [.int (0 : Int32), .int (0 : Int32), .int (0 : Int32), .ref q10, .ref q17, .ref q24, .ref q31, .ref q38, .ref q45, .ref q52, .ref q59, .int (0 : Int32), .int (-1 : Int32), .int (0 : Int32), .int (0 : Int32), .int (0 : Int32), .ref q81, .ref q88, .ref q95, .ref q102, .ref q109, .ref q116, .ref q123, .ref q130, .int (0 : Int32), .int (0 : Int32), .int (0 : Int32), .ref q146, .int (-1 : Int32), .ref q213, .int (0 : Int32), .ref q223, .ref q230, .int (0 : Int32), .ref q240, .ref q247, .ref q254, .ref q261, .ref q268, .ref q275, .ref q282, .int (0 : Int32), .ref q292, .ref q299, .ref q306, .int (0 : Int32), .int (0 : Int32), .ref q319, .null, .int 0, .int 0, .int 0, .int 0, .int 0, .int 0, .int 0, .null, .null, .null, .null, .null, .null, .null, .null, .null, .null, .null, .null, .null, .int 0, .null, .null, .null, .null, .null]) := cZ
  clear cZ
  refine Z_aload_n C dX12_init_446 0 rfl ?_
  refine Z_bipush C dX12_init_447 (v := (8 : Int32)) (by decide +kernel) ?_
  refine Y_newa (t := 0) (a0 := (8, .inl (fun _ => 0))) C hU b324 (List.mem_of_getElem? (i := 7) rfl) rfl rfl (fun _ _ q => q) (fun _ => rfl) (by decide +kernel) rfl (by decide +kernel) (Nat.le_of_ble_eq_true rfl) (Nat.le_of_ble_eq_true rfl) dX12_init_449 (fun q326 ω327 bZ eZ => ?_)
  have b328 := bZ
  clear bZ b324
  have cZ := eZ.trans c325
  have c329 := cZ
  clear cZ eZ
  show PR M 451 [(0, .ref h)] [.ref q326, .ref h] ω327 (32, 1322)
  refine Y_putF C hI pf_X12_init_156 b328 c329 rfl rfl (Nat.le_of_ble_eq_true rfl) dX12_init_451 (fun ω330 bZ cZ => ?_)
  have b331 : BT ω0 ω330 h [(q10, .inl (vC (mV M) 0, (6, .inl (fun _ => 0)))), (q17, .inl (vC (mV M) 0, (6, .inl (fun _ => 0)))), (q24, .inl (vC (mV M) 0, (6, .inl (fun _ => 0)))), (q31, .inl (vC (mV M) 0, (6, .inl (fun _ => 0)))), (q38, .inl (vC (mV M) 0, (6, .inl (fun _ => 0)))), (q45, .inl (vC (mV M) 0, (6, .inl (fun _ => 0)))), (q52, .inl (vC (mV M) 0, (24, .inl (fun _ => 0)))), (q59, .inl (vC (mV M) 0, (6, .inl (fun _ => 0)))), (q81, .inl (vC (mV M) 0, (100, .inl (fun _ => 0)))), (q88, .inl (vC (mV M) 0, (6, .inl (fun _ => 0)))), (q95, .inl (vC (mV M) 0, (60, .inl (fun _ => 0)))), (q102, .inl (vC (mV M) 0, (60, .inl (fun _ => 0)))), (q109, .inl (vC (mV M) 0, (60, .inl (fun _ => 0)))), (q116, .inl (vC (mV M) 0, (60, .inl (fun _ => 0)))), (q123, .inl (vC (mV M) 0, (600, .inl (fun _ => 0)))), (q130, .inl (vC (mV M) 0, (101, .inl (fun _ => 0)))), (q146, .inl (vC (mV M) 0, (19, .inl (upd (upd (upd (upd (upd (upd (upd (upd (upd (upd (upd (upd (upd (upd (upd (upd (upd (upd (upd (fun _ => 0) 0 (102 : Int32)) 1 (97 : Int32)) 2 (115 : Int32)) 3 (116 : Int32)) 4 (115 : Int32)) 5 (108 : Int32)) 6 (111 : Int32)) 7 (119 : Int32)) 8 (103 : Int32)) 9 (97 : Int32)) 10 (112 : Int32)) 11 (116 : Int32)) 12 (105 : Int32)) 13 (114 : Int32)) 14 (101 : Int32)) 15 (108 : Int32)) 16 (111 : Int32)) 17 (110 : Int32)) 18 (103 : Int32))))), (q213, .inl (vC (mV M) 2, (100, .inl (fun _ => 0)))), (q223, .inl (vC (mV M) 0, (6, .inl (fun _ => 0)))), (q230, .inl (vC (mV M) 0, (6, .inl (fun _ => 0)))), (q240, .inl (vC (mV M) 0, (6, .inl (fun _ => 0)))), (q247, .inl (vC (mV M) 0, (6, .inl (fun _ => 0)))), (q254, .inl (vC (mV M) 0, (6, .inl (fun _ => 0)))), (q261, .inl (vC (mV M) 0, (6, .inl (fun _ => 0)))), (q268, .inl (vC (mV M) 0, (6, .inl (fun _ => 0)))), (q275, .inl (vC (mV M) 0, (6, .inl (fun _ => 0)))), (q282, .inl (vC (mV M) 0, (6, .inl (fun _ => 0)))), (q292, .inl (vC (mV M) 0, (6, .inl (fun _ => 0)))), (q299, .inl (vC (mV M) 0, (6, .inl (fun _ => 0)))), (q306, .inl (vC (mV M) 0, (6, .inl (fun _ => 0)))), (q319, .inl (vC (mV M) 0, (10, .inl (fun _ => 0)))), (q326, .inl (vC (mV M) 0, (8, .inl (fun _ => 0))))] := bZ
  clear bZ b328
  have c332 : ω330.2 h = .inr (12, [.int (0 : Int32), .int (0 : Int32), .int (0 : Int32), .ref q10, .ref q17, .ref q24, .ref q31, .ref q38, .ref q45, .ref q52, .ref q59, .int (0 : Int32), .int (-1 : Int32), .int (0 : Int32), .int (0 : Int32), .int (0 : Int32), .ref q81, .ref q88, .ref q95, .ref q102, .ref q109, .ref q116, .ref q123, .ref q130, .int (0 : Int32), .int (0 : Int32), .int (0 : Int32), .ref q146, .int (-1 : Int32), .ref q213, .int (0 : Int32), .ref q223, .ref q230, .int (0 : Int32), .ref q240, .ref q247, .ref q254, .ref q261, .ref q268, .ref q275, .ref q282, .int (0 : Int32), .ref q292, .ref q299, .ref q306, .int (0 : Int32), .int (0 : Int32), .ref q319, .ref q326, .int 0, .int 0, .int 0, .int 0, .int 0, .int 0, .int 0, .null, .null, .null, .null, .null, .null, .null, .null, .null, .null, .null, .null, .null, .int 0, .null, .null, .null, .null, .null]) := cZ
  clear cZ
  refine Z_aload_n C dX12_init_454 0 rfl ?_
  refine Z_iconst C dX12_init_455 (v := (0 : Int32)) (by decide +kernel) ?_
  refine Y_put C pa_X12_init_159 b331 c332 rfl rfl (Nat.le_of_ble_eq_true rfl) dX12_init_456 (fun ω333 bZ cZ => ?_)
  have b334 := bZ
  clear bZ b331
  have c335 : ω333.2 h = .inr (12, [.int (0 : Int32), .int (0 : Int32), .int (0 : Int32), .ref q10, .ref q17, .ref q24, .ref q31, .ref q38, .ref q45, .ref q52, .ref q59, .int (0 : Int32), .int (-1 : Int32), .int (0 : Int32), .int (0 : Int32), .int (0 : Int32), .ref q81, .ref q88, .ref q95, .ref q102, .ref q109, .ref q116, .ref q123, .ref q130, .int (0 : Int32), .int (0 : Int32), .int (0 : Int32), .ref q146, .int (-1 : Int32), .ref q213, .int (0 : Int32), .ref q223, .ref q230, .int (0 : Int32), .ref q240, .ref q247, .ref q254, .ref q261, .ref q268, .ref q275, .ref q282, .int (0 : Int32), .ref q292, .ref q299, .ref q306, .int (0 : Int32), .int (0 : Int32), .ref q319, .ref q326, .int (0 : Int32), .int 0, .int 0, .int 0, .int 0, .int 0, .int 0, .null, .null, .null, .null, .null, .null, .null, .null, .null, .null, .null, .null, .null, .int 0, .null, .null, .null, .null, .null]) := cZ
  clear cZ
  refine Z_aload_n C dX12_init_459 0 rfl ?_
  refine Z_iconst C dX12_init_460 (v := (-1 : Int32)) (by decide +kernel) ?_
  refine Y_put C pa_X12_init_163 b334 c335 rfl rfl (Nat.le_of_ble_eq_true rfl) dX12_init_461 (fun ω336 bZ cZ => ?_)
  have b337 := bZ
  clear bZ b334
  have c338 : ω336.2 h = .inr (12, [.int (0 : Int32), .int (0 : Int32), .int (0 : Int32), .ref q10, .ref q17, .ref q24, .ref q31, .ref q38, .ref q45, .ref q52, .ref q59, .int (0 : Int32), .int (-1 : Int32), .int (0 : Int32), .int (0 : Int32), .int (0 : Int32), .ref q81, .ref q88, .ref q95, .ref q102, .ref q109, .ref q116, .ref q123, .ref q130, .int (0 : Int32), .int (0 : Int32), .int (0 : Int32), .ref q146, .int (-1 : Int32), .ref q213, .int (0 : Int32), .ref q223, .ref q230, .int (0 : Int32), .ref q240, .ref q247, .ref q254, .ref q261, .ref q268, .ref q275, .ref q282, .int (0 : Int32), .ref q292, .ref q299, .ref q306, .int (0 : Int32), .int (0 : Int32), .ref q319, .ref q326, .int (0 : Int32), .int (-1 : Int32), .int 0, .int 0, .int 0, .int 0, .int 0, .null, .null, .null, .null, .null, .null, .null, .null, .null, .null, .null, .null, .null, .int 0, .null, .null, .null, .null, .null]) := cZ
  clear cZ
  refine Z_aload_n C dX12_init_464 0 rfl ?_
  refine Z_iconst C dX12_init_465 (v := (0 : Int32)) (by decide +kernel) ?_
  refine Y_put C pa_X12_init_166 b337 c338 rfl rfl (Nat.le_of_ble_eq_true rfl) dX12_init_466 (fun ω339 bZ cZ => ?_)
  have b340 := bZ
  clear bZ b337
  have c341 : ω339.2 h = .inr (12, [.int (0 : Int32), .int (0 : Int32), .int (0 : Int32), .ref q10, .ref q17, .ref q24, .ref q31, .ref q38, .ref q45, .ref q52, .ref q59, .int (0 : Int32), .int (-1 : Int32), .int (0 : Int32), .int (0 : Int32), .int (0 : Int32), .ref q81, .ref q88, .ref q95, .ref q102, .ref q109, .ref q116, .ref q123, .ref q130, .int (0 : Int32), .int (0 : Int32), .int (0 : Int32), .ref q146, .int (-1 : Int32), .ref q213, .int (0 : Int32), .ref q223, .ref q230, .int (0 : Int32), .ref q240, .ref q247, .ref q254, .ref q261, .ref q268, .ref q275, .ref q282, .int (0 : Int32), .ref q292, .ref q299, .ref q306, .int (0 : Int32), .int (0 : Int32), .ref q319, .ref q326, .int (0 : Int32), .int (-1 : Int32), .int (0 : Int32), .int 0, .int 0, .int 0, .int 0, .null, .null, .null, .null, .null, .null, .null, .null, .null, .null, .null, .null, .null, .int 0, .null, .null, .null, .null, .null]) := cZ
  clear cZ
  refine Z_aload_n C dX12_init_469 0 rfl ?_
  refine Z_iconst C dX12_init_470 (v := (0 : Int32)) (by decide +kernel) ?_
  refine Y_put C pa_X12_init_169 b340 c341 rfl rfl (Nat.le_of_ble_eq_true rfl) dX12_init_471 (fun ω342 bZ cZ => ?_)
  have b343 := bZ
  clear bZ b340
  have c344 : ω342.2 h = .inr (12, [.int (0 : Int32), .int (0 : Int32), .int (0 : Int32), .ref q10, .ref q17, .ref q24, .ref q31, .ref q38, .ref q45, .ref q52, .ref q59, .int (0 : Int32), .int (-1 : Int32), .int (0 : Int32), .int (0 : Int32), .int (0 : Int32), .ref q81, .ref q88, .ref q95, .ref q102, .ref q109, .ref q116, .ref q123, .ref q130, .int (0 : Int32), .int (0 : Int32), .int (0 : Int32), .ref q146, .int (-1 : Int32), .ref q213, .int (0 : Int32), .ref q223, .ref q230, .int (0 : Int32), .ref q240, .ref q247, .ref q254, .ref q261, .ref q268, .ref q275, .ref q282, .int (0 : Int32), .ref q292, .ref q299, .ref q306, .int (0 : Int32), .int (0 : Int32), .ref q319, .ref q326, .int (0 : Int32), .int (-1 : Int32), .int (0 : Int32), .int (0 : Int32), .int 0, .int 0, .int 0, .null, .null, .null, .null, .null, .null, .null, .null, .null, .null, .null, .null, .null, .int 0, .null, .null, .null, .null, .null]) := cZ
  clear cZ
  refine Z_aload_n C dX12_init_474 0 rfl ?_
  refine Z_iconst C dX12_init_475 (v := (0 : Int32)) (by decide +kernel) ?_
  refine Y_put C pa_X12_init_172 b343 c344 rfl rfl (Nat.le_of_ble_eq_true rfl) dX12_init_476 (fun ω345 bZ cZ => ?_)
  have b346 : BT ω0 ω345 h [(q10, .inl (vC (mV M) 0, (6, .inl (fun _ => 0)))), (q17, .inl (vC (mV M) 0, (6, .inl (fun _ => 0)))), (q24, .inl (vC (mV M) 0, (6, .inl (fun _ => 0)))), (q31, .inl (vC (mV M) 0, (6, .inl (fun _ => 0)))), (q38, .inl (vC (mV M) 0, (6, .inl (fun _ => 0)))), (q45, .inl (vC (mV M) 0, (6, .inl (fun _ => 0)))), (q52, .inl (vC (mV M) 0, (24, .inl (fun _ => 0)))), (q59, .inl (vC (mV M) 0, (6, .inl (fun _ => 0)))), (q81, .inl (vC (mV M) 0, (100, .inl (fun _ => 0)))), (q88, .inl (vC (mV M) 0, (6, .inl (fun _ => 0)))), (q95, .inl (vC (mV M) 0, (60, .inl (fun _ => 0)))), (q102, .inl (vC (mV M) 0, (60, .inl (fun _ => 0)))), (q109, .inl (vC (mV M) 0, (60, .inl (fun _ => 0)))), (q116, .inl (vC (mV M) 0, (60, .inl (fun _ => 0)))), (q123, .inl (vC (mV M) 0, (600, .inl (fun _ => 0)))), (q130, .inl (vC (mV M) 0, (101, .inl (fun _ => 0)))), (q146, .inl (vC (mV M) 0, (19, .inl (upd (upd (upd (upd (upd (upd (upd (upd (upd (upd (upd (upd (upd (upd (upd (upd (upd (upd (upd (fun _ => 0) 0 (102 : Int32)) 1 (97 : Int32)) 2 (115 : Int32)) 3 (116 : Int32)) 4 (115 : Int32)) 5 (108 : Int32)) 6 (111 : Int32)) 7 (119 : Int32)) 8 (103 : Int32)) 9 (97 : Int32)) 10 (112 : Int32)) 11 (116 : Int32)) 12 (105 : Int32)) 13 (114 : Int32)) 14 (101 : Int32)) 15 (108 : Int32)) 16 (111 : Int32)) 17 (110 : Int32)) 18 (103 : Int32))))), (q213, .inl (vC (mV M) 2, (100, .inl (fun _ => 0)))), (q223, .inl (vC (mV M) 0, (6, .inl (fun _ => 0)))), (q230, .inl (vC (mV M) 0, (6, .inl (fun _ => 0)))), (q240, .inl (vC (mV M) 0, (6, .inl (fun _ => 0)))), (q247, .inl (vC (mV M) 0, (6, .inl (fun _ => 0)))), (q254, .inl (vC (mV M) 0, (6, .inl (fun _ => 0)))), (q261, .inl (vC (mV M) 0, (6, .inl (fun _ => 0)))), (q268, .inl (vC (mV M) 0, (6, .inl (fun _ => 0)))), (q275, .inl (vC (mV M) 0, (6, .inl (fun _ => 0)))), (q282, .inl (vC (mV M) 0, (6, .inl (fun _ => 0)))), (q292, .inl (vC (mV M) 0, (6, .inl (fun _ => 0)))), (q299, .inl (vC (mV M) 0, (6, .inl (fun _ => 0)))), (q306, .inl (vC (mV M) 0, (6, .inl (fun _ => 0)))), (q319, .inl (vC (mV M) 0, (10, .inl (fun _ => 0)))), (q326, .inl (vC (mV M) 0, (8, .inl (fun _ => 0))))] := bZ
  clear bZ b343
  have c347 : ω345.2 h = .inr (12, [.int (0 : Int32), .int (0 : Int32), .int (0 : Int32), .ref q10, .ref q17, .ref q24, .ref q31, .ref q38, .ref q45, .ref q52, .ref q59, .int (0 : Int32), .int (-1 : Int32), .int (0 : Int32), .int (0 : Int32), .int (0 : Int32), .ref q81, .ref q88, .ref q95, .ref q102, .ref q109, .ref q116, .ref q123, .ref q130, .int (0 : Int32), .int (0 : Int32), .int (0 : Int32), .ref q146, .int (-1 : Int32), .ref q213, .int (0 : Int32), .ref q223, .ref q230, .int (0 : Int32), .ref q240, .ref q247, .ref q254, .ref q261, .ref q268, .ref q275, .ref q282, .int (0 : Int32), .ref q292, .ref q299, .ref q306, .int (0 : Int32), .int (0 : Int32), .ref q319, .ref q326, .int (0 : Int32), .int (-1 : Int32), .int (0 : Int32), .int (0 : Int32), .int (0 : Int32), .int 0, .int 0, .null, .null, .null, .null, .null, .null, .null, .null, .null, .null, .null, .null, .null, .int 0, .null, .null, .null, .null, .null]) := cZ
  clear cZ
  refine Z_aload_n C dX12_init_479 0 rfl ?_
  refine Z_iconst C dX12_init_480 (v := (0 : Int32)) (by decide +kernel) ?_
  refine Y_put C pa_X12_init_175 b346 c347 rfl rfl (Nat.le_of_ble_eq_true rfl) dX12_init_481 (fun ω348 bZ cZ => ?_)
  have b349 := bZ
  clear bZ b346
  have c350 : ω348.2 h = .inr (12, [.int (0 : Int32), .int (0 : Int32), .int (0 : Int32), .ref q10, .ref q17, .ref q24, .ref q31, .ref q38, .ref q45, .ref q52, .ref q59, .int (0 : Int32), .int (-1 : Int32), .int (0 : Int32), .int (0 : Int32), .int (0 : Int32), .ref q81, .ref q88, .ref q95, .ref q102, .ref q109, .ref q116, .ref q123, .ref q130, .int (0 : Int32), .int (0 : Int32), .int (0 : Int32), .ref q146, .int (-1 : Int32), .ref q213, .int (0 : Int32), .ref q223, .ref q230, .int (0 : Int32), .ref q240, .ref q247, .ref q254, .ref q261, .ref q268, .ref q275, .ref q282, .int (0 : Int32), .ref q292, .ref q299, .ref q306, .int (0 : Int32), .int (0 : Int32), .ref q319, .ref q326, .int (0 : Int32), .int (-1 : Int32), .int (0 : Int32), .int (0 : Int32), .int (0 : Int32), .int (0 : Int32), .int 0, .null, .null, .null, .null, .null, .null, .null, .null, .null, .null, .null, .null, .null, .int 0, .null, .null, .null, .null, .null]) := cZ
  clear cZ
  refine Z_aload_n C dX12_init_484 0 rfl ?_
  refine Z_iconst C dX12_init_485 (v := (0 : Int32)) (by decide +kernel) ?_
  refine Y_put C pa_X12_init_178 b349 c350 rfl rfl (Nat.le_of_ble_eq_true rfl) dX12_init_486 (fun ω351 bZ cZ => ?_)
  have b352 := bZ
  clear bZ b349
  have c353 : ω351.2 h = .inr (12, [.int (0 : Int32), .int (0 : Int32), .int (0 : Int32), .ref q10, .ref q17, .ref q24, .ref q31, .ref q38, .ref q45, .ref q52, .ref q59, .int (0 : Int32), .int (-1 : Int32), .int (0 : Int32), .int (0 : Int32), .int (0 : Int32), .ref q81, .ref q88, .ref q95, .ref q102, .ref q109, .ref q116, .ref q123, .ref q130, .int (0 : Int32), .int (0 : Int32), .int (0 : Int32), .ref q146, .int (-1 : Int32), .ref q213, .int (0 : Int32), .ref q223, .ref q230, .int (0 : Int32), .ref q240, .ref q247, .ref q254, .ref q261, .ref q268, .ref q275, .ref q282, .int (0 : Int32), .ref q292, .ref q299, .ref q306, .int (0 : Int32), .int (0 : Int32), .ref q319, .ref q326, .int (0 : Int32), .int (-1 : Int32), .int (0 : Int32), .int (0 : Int32), .int (0 : Int32), .int (0 : Int32), .int (0 : Int32), .null, .null, .null, .null, .null, .null, .null, .null, .null, .null, .null, .null, .null, .int 0, .null, .null, .null, .null, .null]) := cZ
  clear cZ
  refine Z_aload_n C dX12_init_489 0 rfl ?_
  refine Z_bipush C dX12_init_490 (v := (6 : Int32)) (by decide +kernel) ?_
  refine Y_newa (t := 0) (a0 := (6, .inl (fun _ => 0))) C hU b352 (List.mem_of_getElem? (i := 7) rfl) rfl rfl (fun _ _ q => q) (fun _ => rfl) (by decide +kernel) rfl (by decide +kernel) (Nat.le_of_ble_eq_true rfl) (Nat.le_of_ble_eq_true rfl) dX12_init_492 (fun q354 ω355 bZ eZ => ?_)
  have b356 := bZ
  clear bZ b352
  have cZ := eZ.trans c353
  have c357 := cZ
  clear cZ eZ
  show PR M 494 [(0, .ref h)] [.ref q354, .ref h] ω355 (33, 1328)
  refine Y_putF C hI pf_X12_init_181 b356 c357 rfl rfl (Nat.le_of_ble_eq_true rfl) dX12_init_494 (fun ω358 bZ cZ => ?_)
  have b359 := bZ
  clear bZ b356
  have c360 : ω358.2 h = .inr (12, [.int (0 : Int32), .int (0 : Int32), .int (0 : Int32), .ref q10, .ref q17, .ref q24, .ref q31, .ref q38, .ref q45, .ref q52, .ref q59, .int (0 : Int32), .int (-1 : Int32), .int (0 : Int32), .int (0 : Int32), .int (0 : Int32), .ref q81, .ref q88, .ref q95, .ref q102, .ref q109, .ref q116, .ref q123, .ref q130, .int (0 : Int32), .int (0 : Int32), .int (0 : Int32), .ref q146, .int (-1 : Int32), .ref q213, .int (0 : Int32), .ref q223, .ref q230, .int (0 : Int32), .ref q240, .ref q247, .ref q254, .ref q261, .ref q268, .ref q275, .ref q282, .int (0 : Int32), .ref q292, .ref q299, .ref q306, .int (0 : Int32), .int (0 : Int32), .ref q319, .ref q326, .int (0 : Int32), .int (-1 : Int32), .int (0 : Int32), .int (0 : Int32), .int (0 : Int32), .int (0 : Int32), .int (0 : Int32), .ref q354, .null, .null, .null, .null, .null, .null, .null, .null, .null, .null, .null, .null, .int 0, .null, .null, .null, .null, .null]) := cZ
  clear cZ
  refine Z_aload_n C dX12_init_497 0 rfl ?_
  refine Z_bipush C dX12_init_498 (v := (6 : Int32)) (by decide +kernel) ?_
  refine Y_newa (t := 0) (a0 := (6, .inl (fun _ => 0))) C hU b359 (List.mem_of_getElem? (i := 7) rfl) rfl rfl (fun _ _ q => q) (fun _ => rfl) (by decide +kernel) rfl (by decide +kernel) (Nat.le_of_ble_eq_true rfl) (Nat.le_of_ble_eq_true rfl) dX12_init_500 (fun q361 ω362 bZ eZ => ?_)
  have b363 : BT ω0 ω362 h [(q10, .inl (vC (mV M) 0, (6, .inl (fun _ => 0)))), (q17, .inl (vC (mV M) 0, (6, .inl (fun _ => 0)))), (q24, .inl (vC (mV M) 0, (6, .inl (fun _ => 0)))), (q31, .inl (vC (mV M) 0, (6, .inl (fun _ => 0)))), (q38, .inl (vC (mV M) 0, (6, .inl (fun _ => 0)))), (q45, .inl (vC (mV M) 0, (6, .inl (fun _ => 0)))), (q52, .inl (vC (mV M) 0, (24, .inl (fun _ => 0)))), (q59, .inl (vC (mV M) 0, (6, .inl (fun _ => 0)))), (q81, .inl (vC (mV M) 0, (100, .inl (fun _ => 0)))), (q88, .inl (vC (mV M) 0, (6, .inl (fun _ => 0)))), (q95, .inl (vC (mV M) 0, (60, .inl (fun _ => 0)))), (q102, .inl (vC (mV M) 0, (60, .inl (fun _ => 0)))), (q109, .inl (vC (mV M) 0, (60, .inl (fun _ => 0)))), (q116, .inl (vC (mV M) 0, (60, .inl (fun _ => 0)))), (q123, .inl (vC (mV M) 0, (600, .inl (fun _ => 0)))), (q130, .inl (vC (mV M) 0, (101, .inl (fun _ => 0)))), (q146, .inl (vC (mV M) 0, (19, .inl (upd (upd (upd (upd (upd (upd (upd (upd (upd (upd (upd (upd (upd (upd (upd (upd (upd (upd (upd (fun _ => 0) 0 (102 : Int32)) 1 (97 : Int32)) 2 (115 : Int32)) 3 (116 : Int32)) 4 (115 : Int32)) 5 (108 : Int32)) 6 (111 : Int32)) 7 (119 : Int32)) 8 (103 : Int32)) 9 (97 : Int32)) 10 (112 : Int32)) 11 (116 : Int32)) 12 (105 : Int32)) 13 (114 : Int32)) 14 (101 : Int32)) 15 (108 : Int32)) 16 (111 : Int32)) 17 (110 : Int32)) 18 (103 : Int32))))), (q213, .inl (vC (mV M) 2, (100, .inl (fun _ => 0)))), (q223, .inl (vC (mV M) 0, (6, .inl (fun _ => 0)))), (q230, .inl (vC (mV M) 0, (6, .inl (fun _ => 0)))), (q240, .inl (vC (mV M) 0, (6, .inl (fun _ => 0)))), (q247, .inl (vC (mV M) 0, (6, .inl (fun _ => 0)))), (q254, .inl (vC (mV M) 0, (6, .inl (fun _ => 0)))), (q261, .inl (vC (mV M) 0, (6, .inl (fun _ => 0)))), (q268, .inl (vC (mV M) 0, (6, .inl (fun _ => 0)))), (q275, .inl (vC (mV M) 0, (6, .inl (fun _ => 0)))), (q282, .inl (vC (mV M) 0, (6, .inl (fun _ => 0)))), (q292, .inl (vC (mV M) 0, (6, .inl (fun _ => 0)))), (q299, .inl (vC (mV M) 0, (6, .inl (fun _ => 0)))), (q306, .inl (vC (mV M) 0, (6, .inl (fun _ => 0)))), (q319, .inl (vC (mV M) 0, (10, .inl (fun _ => 0)))), (q326, .inl (vC (mV M) 0, (8, .inl (fun _ => 0)))), (q354, .inl (vC (mV M) 0, (6, .inl (fun _ => 0)))), (q361, .inl (vC (mV M) 0, (6, .inl (fun _ => 0))))] := bZ
  clear bZ b359
  have cZ := eZ.trans c360
  have c364 := cZ
  clear cZ eZ
  show PR M 502 [(0, .ref h)] [.ref q361, .ref h] ω362 (34, 1334)
  refine Y_putF C hI pf_X12_init_184 b363 c364 rfl rfl (Nat.le_of_ble_eq_true rfl) dX12_init_502 (fun ω365 bZ cZ => ?_)
  have b366 := bZ
  clear bZ b363
  have c367 : ω365.2 h = .inr (12, [.int (0 : Int32), .int (0 : Int32), .int (0 : Int32), .ref q10, .ref q17, .ref q24, .ref q31, .ref q38, .ref q45, .ref q52, .ref q59, .int (0 : Int32), .int (-1 : Int32), .int (0 : Int32), .int (0 : Int32), .int (0 : Int32), .ref q81, .ref q88, .ref q95, .ref q102, .ref q109, .ref q116, .ref q123, .ref q130, .int (0 : Int32), .int (0 : Int32), .int (0 : Int32), .ref q146, .int (-1 : Int32), .ref q213, .int (0 : Int32), .ref q223, .ref q230, .int (0 : Int32), .ref q240, .ref q247, .ref q254, .ref q261, .ref q268, .ref q275, .ref q282, .int (0 : Int32), .ref q292, .ref q299, .ref q306, .int (0 : Int32), .int (0 : Int32), .ref q319, .ref q326, .int (0 : Int32), .int (-1 : Int32), .int (0 : Int32), .int (0 : Int32), .int (0 : Int32), .int (0 : Int32), .int (0 : Int32), .ref q354, .ref q361, .null, .null, .null, .null, .null, .null, .null, .null, .null, .null, .null, .int 0, .null, .null, .null, .null, .null]) := cZ
  clear cZ
  refine Z_aload_n C dX12_init_505 0 rfl ?_
  refine Z_bipush C dX12_init_506 (v := (6 : Int32)) (by decide +kernel) ?_
  refine Y_newa (t := 0) (a0 := (6, .inl (fun _ => 0))) C hU b366 (List.mem_of_getElem? (i := 7) rfl) rfl rfl (fun _ _ q => q) (fun _ => rfl) (by decide +kernel) rfl (by decide +kernel) (Nat.le_of_ble_eq_true rfl) (Nat.le_of_ble_eq_true rfl) dX12_init_508 (fun q368 ω369 bZ eZ => ?_)
  have b370 := bZ
  clear bZ b366
  have cZ := eZ.trans c367
  have c371 := cZ
  clear cZ eZ
  show PR M 510 [(0, .ref h)] [.ref q368, .ref h] ω369 (35, 1340)
  refine Y_putF C hI pf_X12_init_187 b370 c371 rfl rfl (Nat.le_of_ble_eq_true rfl) dX12_init_510 (fun ω372 bZ cZ => ?_)
  have b373 := bZ
  clear bZ b370
  have c374 : ω372.2 h = .inr (12, [.int (0 : Int32), .int (0 : Int32), .int (0 : Int32), .ref q10, .ref q17, .ref q24, .ref q31, .ref q38, .ref q45, .ref q52, .ref q59, .int (0 : Int32), .int (-1 : Int32), .int (0 : Int32), .int (0 : Int32), .int (0 : Int32), .ref q81, .ref q88, .ref q95, .ref q102, .ref q109, .ref q116, .ref q123, .ref q130, .int (0 : Int32), .int (0 : Int32), .int (0 : Int32), .ref q146, .int (-1 : Int32), .ref q213, .int (0 : Int32), .ref q223, .ref q230, .int (0 : Int32), .ref q240, .ref q247, .ref q254, .ref q261, .ref q268, .ref q275, .ref q282, .int (0 : Int32), .ref q292, .ref q299, .ref q306, .int (0 : Int32), .int (0 : Int32), .ref q319, .ref q326, .int (0 : Int32), .int (-1 : Int32), .int (0 : Int32), .int (0 : Int32), .int (0 : Int32), .int (0 : Int32), .int (0 : Int32), .ref q354, .ref q361, .ref q368, .null, .null, .null, .null, .null, .null, .null, .null, .null, .null, .int 0, .null, .null, .null, .null, .null]) := cZ
  clear cZ
  refine Z_aload_n C dX12_init_513 0 rfl ?_
  refine Z_bipush C dX12_init_514 (v := (6 : Int32)) (by decide +kernel) ?_
  refine Y_newa (t := 0) (a0 := (6, .inl (fun _ => 0))) C hU b373 (List.mem_of_getElem? (i := 7) rfl) rfl rfl (fun _ _ q => q) (fun _ => rfl) (by decide +kernel) rfl (by decide +kernel) (Nat.le_of_ble_eq_true rfl) (Nat.le_of_ble_eq_true rfl) dX12_init_516 (fun q375 ω376 bZ eZ => ?_)
  have b377 := bZ
  clear bZ b373
  have cZ := eZ.trans c374
  have c378 := cZ
  clear cZ eZ
  show PR M 518 [(0, .ref h)] [.ref q375, .ref h] ω376 (36, 1346)
  refine Y_putF C hI pf_X12_init_190 b377 c378 rfl rfl (Nat.le_of_ble_eq_true rfl) dX12_init_518 (fun ω379 bZ cZ => ?_)
  have b380 : BT ω0 ω379 h [(q10, .inl (vC (mV M) 0, (6, .inl (fun _ => 0)))), (q17, .inl (vC (mV M) 0, (6, .inl (fun _ => 0)))), (q24, .inl (vC (mV M) 0, (6, .inl (fun _ => 0)))), (q31, .inl (vC (mV M) 0, (6, .inl (fun _ => 0)))), (q38, .inl (vC (mV M) 0, (6, .inl (fun _ => 0)))), (q45, .inl (vC (mV M) 0, (6, .inl (fun _ => 0)))), (q52, .inl (vC (mV M) 0, (24, .inl (fun _ => 0)))), (q59, .inl (vC (mV M) 0, (6, .inl (fun _ => 0)))), (q81, .inl (vC (mV M) 0, (100, .inl (fun _ => 0)))), (q88, .inl (vC (mV M) 0, (6, .inl (fun _ => 0)))), (q95, .inl (vC (mV M) 0, (60, .inl (fun _ => 0)))), (q102, .inl (vC (mV M) 0, (60, .inl (fun _ => 0)))), (q109, .inl (vC (mV M) 0, (60, .inl (fun _ => 0)))), (q116, .inl (vC (mV M) 0, (60, .inl (fun _ => 0)))), (q123, .inl (vC (mV M) 0, (600, .inl (fun _ => 0)))), (q130, .inl (vC (mV M) 0, (101, .inl (fun _ => 0)))), (q146, .inl (vC (mV M) 0, (19, .inl (upd (upd (upd (upd (upd (upd (upd (upd (upd (upd (upd (upd (upd (upd (upd (upd (upd (upd (upd (fun _ => 0) 0 (102 : Int32)) 1 (97 : Int32)) 2 (115 : Int32)) 3 (116 : Int32)) 4 (115 : Int32)) 5 (108 : Int32)) 6 (111 : Int32)) 7 (119 : Int32)) 8 (103 : Int32)) 9 (97 : Int32)) 10 (112 : Int32)) 11 (116 : Int32)) 12 (105 : Int32)) 13 (114 : Int32)) 14 (101 : Int32)) 15 (108 : Int32)) 16 (111 : Int32)) 17 (110 : Int32)) 18 (103 : Int32))))), (q213, .inl (vC (mV M) 2, (100, .inl (fun _ => 0)))), (q223, .inl (vC (mV M) 0, (6, .inl (fun _ => 0)))), (q230, .inl (vC (mV M) 0, (6, .inl (fun _ => 0)))), (q240, .inl (vC (mV M) 0, (6, .inl (fun _ => 0)))), (q247, .inl (vC (mV M) 0, (6, .inl (fun _ => 0)))), (q254, .inl (vC (mV M) 0, (6, .inl (fun _ => 0)))), (q261, .inl (vC (mV M) 0, (6, .inl (fun _ => 0)))), (q268, .inl (vC (mV M) 0, (6, .inl (fun _ => 0)))), (q275, .inl (vC (mV M) 0, (6, .inl (fun _ => 0)))), (q282, .inl (vC (mV M) 0, (6, .inl (fun _ => 0)))), (q292, .inl (vC (mV M) 0, (6, .inl (fun _ => 0)))), (q299, .inl (vC (mV M) 0, (6, .inl (fun _ => 0)))), (q306, .inl (vC (mV M) 0, (6, .inl (fun _ => 0)))), (q319, .inl (vC (mV M) 0, (10, .inl (fun _ => 0)))), (q326, .inl (vC (mV M) 0, (8, .inl (fun _ => 0)))), (q354, .inl (vC (mV M) 0, (6, .inl (fun _ => 0)))), (q361, .inl (vC (mV M) 0, (6, .inl (fun _ => 0)))), (q368, .inl (vC (mV M) 0, (6, .inl (fun _ => 0)))), (q375, .inl (vC (mV M) 0, (6, .inl (fun _ => 0))))] := bZ
  clear bZ b377
  have c381 : ω379.2 h = .inr (12, [.int (0 : Int32), .int (0 : Int32), .int (0 : Int32), .ref q10, .ref q17, .ref q24, .ref q31, .ref q38, .ref q45, .ref q52, .ref q59, .int (0 : Int32), .int (-1 : Int32), .int (0 : Int32), .int (0 : Int32), .int (0 : Int32), .ref q81, .ref q88, .ref q95, .ref q102, .ref q109, .ref q116, .ref q123, .ref q130, .int (0 : Int32), .int (0 : Int32), .int (0 : Int32), .ref q146, .int (-1 : Int32), .ref q213, .int (0 : Int32), .ref q223, .ref q230, .int (0 : Int32), .ref q240, .ref q247, .ref q254, .ref q261, .ref q268, .ref q275, .ref q282, .int (0 : Int32), .ref q292, .ref q299, .ref q306, .int (0 : Int32), .int (0 : Int32), .ref q319, .ref q326, .int (0 : Int32), .int (-1 : Int32), .int (0 : Int32), .int (0 : Int32), .int (0 : Int32), .int (0 : Int32), .int (0 : Int32), .ref q354, .ref q361, .ref q368, .ref q375, .null, .null, .null, .null, .null, .null, .null, .null, .null, .int 0, .null, .null, .null, .null, .null]) := cZ
  clear cZ
  refine Z_aload_n C dX12_init_521 0 rfl ?_
  refine Z_bipush C dX12_init_522 (v := (6 : Int32)) (by decide +kernel) ?_
  refine Y_newa (t := 0) (a0 := (6, .inl (fun _ => 0))) C hU b380 (List.mem_of_getElem? (i := 7) rfl) rfl rfl (fun _ _ q => q) (fun _ => rfl) (by decide +kernel) rfl (by decide +kernel) (Nat.le_of_ble_eq_true rfl) (Nat.le_of_ble_eq_true rfl) dX12_init_524 (fun q382 ω383 bZ eZ => ?_)
  have b384 := bZ
  clear bZ b380
  have cZ := eZ.trans c381
  have c385 := cZ
  clear cZ eZ
  show PR M 526 [(0, .ref h)] [.ref q382, .ref h] ω383 (37, 1352)
  refine Y_putF C hI pf_X12_init_193 b384 c385 rfl rfl (Nat.le_of_ble_eq_true rfl) dX12_init_526 (fun ω386 bZ cZ => ?_)
  have b387 := bZ
  clear bZ b384
  have c388 : ω386.2 h = .inr (12, [.int (0 : Int32), .int (0 : Int32), .int (0 : Int32), .ref q10, .ref q17, .ref q24, .ref q31, .ref q38, .ref q45, .ref q52, .ref q59, .int (0 : Int32), .int (-1 : Int32), .int (0 : Int32), .int (0 : Int32), .int (0 : Int32), .ref q81, .ref q88, .ref q95, .ref q102, .ref q109, .ref q116, .ref q123, .ref q130, .int (0 : Int32), .int (0 : Int32), .int (0 : Int32), .ref q146, .int (-1 : Int32), .ref q213, .int (0 : Int32), .ref q223, .ref q230, .int (0 : Int32), .ref q240, .ref q247, .ref q254, .ref q261, .ref q268, .ref q275, .ref q282, .int (0 : Int32), .ref q292, .ref q299, .ref q306, .int (0 : Int32), .int (0 : Int32), .ref q319, .ref q326, .int (0 : Int32), .int (-1 : Int32), .int (0 : Int32), .int (0 : Int32), .int (0 : Int32), .int (0 : Int32), .int (0 : Int32), .ref q354, .ref q361, .ref q368, .ref q375, .ref q382, .null, .null, .null, .null, .null, .null, .null, .null, .int 0, .null, .null, .null, .null, .null]) := cZ
  clear cZ
  refine Z_aload_n C dX12_init_529 0 rfl ?_
  refine Z_bipush C dX12_init_530 (v := (6 : Int32)) (by decide +kernel) ?_
  refine Y_newa (t := 0) (a0 := (6, .inl (fun _ => 0))) C hU b387 (List.mem_of_getElem? (i := 7) rfl) rfl rfl (fun _ _ q => q) (fun _ => rfl) (by decide +kernel) rfl (by decide +kernel) (Nat.le_of_ble_eq_true rfl) (Nat.le_of_ble_eq_true rfl) dX12_init_532 (fun q389 ω390 bZ eZ => ?_)
  have b391 := bZ
  clear bZ b387
  have cZ := eZ.trans c388
  have c392 := cZ
  clear cZ eZ
  show PR M 534 [(0, .ref h)] [.ref q389, .ref h] ω390 (38, 1358)
  refine Y_putF C hI pf_X12_init_196 b391 c392 rfl rfl (Nat.le_of_ble_eq_true rfl) dX12_init_534 (fun ω393 bZ cZ => ?_)
  have b394 := bZ
  clear bZ b391
  have c395 : ω393.2 h = .inr (12, [.int (0 : Int32), .int (0 : Int32), .int (0 : Int32), .ref q10, .ref q17, .ref q24, .ref q31, .ref q38, .ref q45, .ref q52, .ref q59, .int (0 : Int32), .int (-1 : Int32), .int (0 : Int32), .int (0 : Int32), .int (0 : Int32), .ref q81, .ref q88, .ref q95, .ref q102, .ref q109, .ref q116, .ref q123, .ref q130, .int (0 : Int32), .int (0 : Int32), .int (0 : Int32), .ref q146, .int (-1 : Int32), .ref q213, .int (0 : Int32), .ref q223, .ref q230, .int (0 : Int32), .ref q240, .ref q247, .ref q254, .ref q261, .ref q268, .ref q275, .ref q282, .int (0 : Int32), .ref q292, .ref q299, .ref q306, .int (0 : Int32), .int (0 : Int32), .ref q319, .ref q326, .int (0 : Int32), .int (-1 : Int32), .int (0 : Int32), .int (0 : Int32), .int (0 : Int32), .int (0 : Int32), .int (0 : Int32), .ref q354, .ref q361, .ref q368, .ref q375, .ref q382, .ref q389, .null, .null, .null, .null, .null, .null, .null, .int 0, .null, .null, .null, .null, .null]) := cZ
  clear cZ
  refine Z_aload_n C dX12_init_537 0 rfl ?_
  refine Z_bipush C dX12_init_538 (v := (6 : Int32)) (by decide +kernel) ?_
  refine Y_newa (t := 0) (a0 := (6, .inl (fun _ => 0))) C hU b394 (List.mem_of_getElem? (i := 7) rfl) rfl rfl (fun _ _ q => q) (fun _ => rfl) (by decide +kernel) rfl (by decide +kernel) (Nat.le_of_ble_eq_true rfl) (Nat.le_of_ble_eq_true rfl) dX12_init_540 (fun q396 ω397 bZ eZ => ?_)
  have b398 : BT ω0 ω397 h [(q10, .inl (vC (mV M) 0, (6, .inl (fun _ => 0)))), (q17, .inl (vC (mV M) 0, (6, .inl (fun _ => 0)))), (q24, .inl (vC (mV M) 0, (6, .inl (fun _ => 0)))), (q31, .inl (vC (mV M) 0, (6, .inl (fun _ => 0)))), (q38, .inl (vC (mV M) 0, (6, .inl (fun _ => 0)))), (q45, .inl (vC (mV M) 0, (6, .inl (fun _ => 0)))), (q52, .inl (vC (mV M) 0, (24, .inl (fun _ => 0)))), (q59, .inl (vC (mV M) 0, (6, .inl (fun _ => 0)))), (q81, .inl (vC (mV M) 0, (100, .inl (fun _ => 0)))), (q88, .inl (vC (mV M) 0, (6, .inl (fun _ => 0)))), (q95, .inl (vC (mV M) 0, (60, .inl (fun _ => 0)))), (q102, .inl (vC (mV M) 0, (60, .inl (fun _ => 0)))), (q109, .inl (vC (mV M) 0, (60, .inl (fun _ => 0)))), (q116, .inl (vC (mV M) 0, (60, .inl (fun _ => 0)))), (q123, .inl (vC (mV M) 0, (600, .inl (fun _ => 0)))), (q130, .inl (vC (mV M) 0, (101, .inl (fun _ => 0)))), (q146, .inl (vC (mV M) 0, (19, .inl (upd (upd (upd (upd (upd (upd (upd (upd (upd (upd (upd (upd (upd (upd (upd (upd (upd (upd (upd (fun _ => 0) 0 (102 : Int32)) 1 (97 : Int32)) 2 (115 : Int32)) 3 (116 : Int32)) 4 (115 : Int32)) 5 (108 : Int32)) 6 (111 : Int32)) 7 (119 : Int32)) 8 (103 : Int32)) 9 (97 : Int32)) 10 (112 : Int32)) 11 (116 : Int32)) 12 (105 : Int32)) 13 (114 : Int32)) 14 (101 : Int32)) 15 (108 : Int32)) 16 (111 : Int32)) 17 (110 : Int32)) 18 (103 : Int32))))), (q213, .inl (vC (mV M) 2, (100, .inl (fun _ => 0)))), (q223, .inl (vC (mV M) 0, (6, .inl (fun _ => 0)))), (q230, .inl (vC (mV M) 0, (6, .inl (fun _ => 0)))), (q240, .inl (vC (mV M) 0, (6, .inl (fun _ => 0)))), (q247, .inl (vC (mV M) 0, (6, .inl (fun _ => 0)))), (q254, .inl (vC (mV M) 0, (6, .inl (fun _ => 0)))), (q261, .inl (vC (mV M) 0, (6, .inl (fun _ => 0)))), (q268, .inl (vC (mV M) 0, (6, .inl (fun _ => 0)))), (q275, .inl (vC (mV M) 0, (6, .inl (fun _ => 0)))), (q282, .inl (vC (mV M) 0, (6, .inl (fun _ => 0)))), (q292, .inl (vC (mV M) 0, (6, .inl (fun _ => 0)))), (q299, .inl (vC (mV M) 0, (6, .inl (fun _ => 0)))), (q306, .inl (vC (mV M) 0, (6, .inl (fun _ => 0)))), (q319, .inl (vC (mV M) 0, (10, .inl (fun _ => 0)))), (q326, .inl (vC (mV M) 0, (8, .inl (fun _ => 0)))), (q354, .inl (vC (mV M) 0, (6, .inl (fun _ => 0)))), (q361, .inl (vC (mV M) 0, (6, .inl (fun _ => 0)))), (q368, .inl (vC (mV M) 0, (6, .inl (fun _ => 0)))), (q375, .inl (vC (mV M) 0, (6, .inl (fun _ => 0)))), (q382, .inl (vC (mV M) 0, (6, .inl (fun _ => 0)))), (q389, .inl (vC (mV M) 0, (6, .inl (fun _ => 0)))), (q396, .inl (vC (mV M) 0, (6, .inl (fun _ => 0))))] := bZ
  clear bZ b394
  have cZ := eZ.trans c395
  have c399 := cZ
  clear cZ eZ
  show PR M 542 [(0, .ref h)] [.ref q396, .ref h] ω397 (39, 1364)
  refine Y_putF C hI pf_X12_init_199 b398 c399 rfl rfl (Nat.le_of_ble_eq_true rfl) dX12_init_542 (fun ω400 bZ cZ => ?_)
  have b401 := bZ
  clear bZ b398
  have c402 : ω400.2 h = .inr (12, [.int (0 : Int32), .int (0 : Int32), .int (0 : Int32), .ref q10, .ref q17, .ref q24, .ref q31, .ref q38, .ref q45, .ref q52, .ref q59, .int (0 : Int32), .int (-1 : Int32), .int (0 : Int32), .int (0 : Int32), .int (0 : Int32), .ref q81, .ref q88, .ref q95, .ref q102, .ref q109, .ref q116, .ref q123, .ref q130, .int (0 : Int32), .int (0 : Int32), .int (0 : Int32), .ref q146, .int (-1 : Int32), .ref q213, .int (0 : Int32), .ref q223, .ref q230, .int (0 : Int32), .ref q240, .ref q247, .ref q254, .ref q261, .ref q268, .ref q275, .ref q282, .int (0 : Int32), .ref q292, .ref q299, .ref q306, .int (0 : Int32), .int (0 : Int32), .ref q319, .ref q326, .int (0 : Int32), .int (-1 : Int32), .int (0 : Int32), .int (0 : Int32), .int (0 : Int32), .int (0 : Int32), .int (0 : Int32), .ref q354, .ref q361, .ref q368, .ref q375, .ref q382, .ref q389, .ref q396, .null, .null, .null, .null, .null, .null, .int 0, .null, .null, .null, .null, .null]) := cZ
  clear cZ
  refine Z_aload_n C dX12_init_545 0 rfl ?_
  refine Z_bipush C dX12_init_546 (v := (24 : Int32)) (by decide +kernel) ?_
  refine Y_newa (t := 0) (a0 := (24, .inl (fun _ => 0))) C hU b401 (List.mem_of_getElem? (i := 7) rfl) rfl rfl (fun _ _ q => q) (fun _ => rfl) (by decide +kernel) rfl (by decide +kernel) (Nat.le_of_ble_eq_true rfl) (Nat.le_of_ble_eq_true rfl) dX12_init_548 (fun q403 ω404 bZ eZ => ?_)
  have b405 := bZ
  clear bZ b401
  have cZ := eZ.trans c402
  have c406 := cZ
  clear cZ eZ
  show PR M 550 [(0, .ref h)] [.ref q403, .ref h] ω404 (40, 1388)
  refine Y_putF C hI pf_X12_init_202 b405 c406 rfl rfl (Nat.le_of_ble_eq_true rfl) dX12_init_550 (fun ω407 bZ cZ => ?_)
  have b408 := bZ
  clear bZ b405
  have c409 : ω407.2 h = .inr (12, [.int (0 : Int32), .int (0 : Int32), .int (0 : Int32), .ref q10, .ref q17, .ref q24, .ref q31, .ref q38, .ref q45, .ref q52, .ref q59, .int (0 : Int32), .int (-1 : Int32), .int (0 : Int32), .int (0 : Int32), .int (0 : Int32), .ref q81, .ref q88, .ref q95, .ref q102, .ref q109, .ref q116, .ref q123, .ref q130, .int (0 : Int32), .int (0 : Int32), .int (0 : Int32), .ref q146, .int (-1 : Int32), .ref q213, .int (0 : Int32), .ref q223, .ref q230, .int (0 : Int32), .ref q240, .ref q247, .ref q254, .ref q261, .ref q268, .ref q275, .ref q282, .int (0 : Int32), .ref q292, .ref q299, .ref q306, .int (0 : Int32), .int (0 : Int32), .ref q319, .ref q326, .int (0 : Int32), .int (-1 : Int32), .int (0 : Int32), .int (0 : Int32), .int (0 : Int32), .int (0 : Int32), .int (0 : Int32), .ref q354, .ref q361, .ref q368, .ref q375, .ref q382, .ref q389, .ref q396, .ref q403, .null, .null, .null, .null, .null, .int 0, .null, .null, .null, .null, .null]) := cZ
  clear cZ
  refine Z_aload_n C dX12_init_553 0 rfl ?_
  refine Z_bipush C dX12_init_554 (v := (6 : Int32)) (by decide +kernel) ?_
  refine Y_newa (t := 0) (a0 := (6, .inl (fun _ => 0))) C hU b408 (List.mem_of_getElem? (i := 7) rfl) rfl rfl (fun _ _ q => q) (fun _ => rfl) (by decide +kernel) rfl (by decide +kernel) (Nat.le_of_ble_eq_true rfl) (Nat.le_of_ble_eq_true rfl) dX12_init_556 (fun q410 ω411 bZ eZ => ?_)
  have b412 := bZ
  clear bZ b408
  have cZ := eZ.trans c409
  have c413 := cZ
  clear cZ eZ
  show PR M 558 [(0, .ref h)] [.ref q410, .ref h] ω411 (41, 1394)
  refine Y_putF C hI pf_X12_init_205 b412 c413 rfl rfl (Nat.le_of_ble_eq_true rfl) dX12_init_558 (fun ω414 bZ cZ => ?_)
  have b415 : BT ω0 ω414 h [(q10, .inl (vC (mV M) 0, (6, .inl (fun _ => 0)))), (q17, .inl (vC (mV M) 0, (6, .inl (fun _ => 0)))), (q24, .inl (vC (mV M) 0, (6, .inl (fun _ => 0)))), (q31, .inl (vC (mV M) 0, (6, .inl (fun _ => 0)))), (q38, .inl (vC (mV M) 0, (6, .inl (fun _ => 0)))), (q45, .inl (vC (mV M) 0, (6, .inl (fun _ => 0)))), (q52, .inl (vC (mV M) 0, (24, .inl (fun _ => 0)))), (q59, .inl (vC (mV M) 0, (6, .inl (fun _ => 0)))), (q81, .inl (vC (mV M) 0, (100, .inl (fun _ => 0)))), (q88, .inl (vC (mV M) 0, (6, .inl (fun _ => 0)))), (q95, .inl (vC (mV M) 0, (60, .inl (fun _ => 0)))), (q102, .inl (vC (mV M) 0, (60, .inl (fun _ => 0)))), (q109, .inl (vC (mV M) 0, (60, .inl (fun _ => 0)))), (q116, .inl (vC (mV M) 0, (60, .inl (fun _ => 0)))), (q123, .inl (vC (mV M) 0, (600, .inl (fun _ => 0)))), (q130, .inl (vC (mV M) 0, (101, .inl (fun _ => 0)))), (q146, .inl (vC (mV M) 0, (19, .inl (upd (upd (upd (upd (upd (upd (upd (upd (upd (upd (upd (upd (upd (upd (upd (upd (upd (upd (upd (fun _ => 0) 0 (102 : Int32)) 1 (97 : Int32)) 2 (115 : Int32)) 3 (116 : Int32)) 4 (115 : Int32)) 5 (108 : Int32)) 6 (111 : Int32)) 7 (119 : Int32)) 8 (103 : Int32)) 9 (97 : Int32)) 10 (112 : Int32)) 11 (116 : Int32)) 12 (105 : Int32)) 13 (114 : Int32)) 14 (101 : Int32)) 15 (108 : Int32)) 16 (111 : Int32)) 17 (110 : Int32)) 18 (103 : Int32))))), (q213, .inl (vC (mV M) 2, (100, .inl (fun _ => 0)))), (q223, .inl (vC (mV M) 0, (6, .inl (fun _ => 0)))), (q230, .inl (vC (mV M) 0, (6, .inl (fun _ => 0)))), (q240, .inl (vC (mV M) 0, (6, .inl (fun _ => 0)))), (q247, .inl (vC (mV M) 0, (6, .inl (fun _ => 0)))), (q254, .inl (vC (mV M) 0, (6, .inl (fun _ => 0)))), (q261, .inl (vC (mV M) 0, (6, .inl (fun _ => 0)))), (q268, .inl (vC (mV M) 0, (6, .inl (fun _ => 0)))), (q275, .inl (vC (mV M) 0, (6, .inl (fun _ => 0)))), (q282, .inl (vC (mV M) 0, (6, .inl (fun _ => 0)))), (q292, .inl (vC (mV M) 0, (6, .inl (fun _ => 0)))), (q299, .inl (vC (mV M) 0, (6, .inl (fun _ => 0)))), (q306, .inl (vC (mV M) 0, (6, .inl (fun _ => 0)))), (q319, .inl (vC (mV M) 0, (10, .inl (fun _ => 0)))), (q326, .inl (vC (mV M) 0, (8, .inl (fun _ => 0)))), (q354, .inl (vC (mV M) 0, (6, .inl (fun _ => 0)))), (q361, .inl (vC (mV M) 0, (6, .inl (fun _ => 0)))), (q368, .inl (vC (mV M) 0, (6, .inl (fun _ => 0)))), (q375, .inl (vC (mV M) 0, (6, .inl (fun _ => 0)))), (q382, .inl (vC (mV M) 0, (6, .inl (fun _ => 0)))), (q389, .inl (vC (mV M) 0, (6, .inl (fun _ => 0)))), (q396, .inl (vC (mV M) 0, (6, .inl (fun _ => 0)))), (q403, .inl (vC (mV M) 0, (24, .inl (fun _ => 0)))), (q410, .inl (vC (mV M) 0, (6, .inl (fun _ => 0))))] := bZ
  clear bZ b412
  have c416 : ω414.2 h = .inr (12, [.int (0 : Int32), .int (0 : Int32), .int (0 : Int32), .ref q10, .ref q17, .ref q24, .ref q31, .ref q38, .ref q45, .ref q52, .ref q59, .int (0 : Int32), .int (-1 : Int32), .int (0 : Int32), .int (0 : Int32), .int (0 : Int32), .ref q81, .ref q88, .ref q95, .ref q102, .ref q109, .ref q116, .ref q123, .ref q130, .int (0 : Int32), .int (0 : Int32), .int (0 : Int32), .ref q146, .int (-1 : Int32), .ref q213, .int (0 : Int32), .ref q223, .ref q230, .int (0 : Int32), .ref q240, .ref q247, .ref q254, .ref q261, .ref q268, .ref q275, .ref q282, .int (0 : Int32), .ref q292, .ref q299, .ref q306, .int (0 : Int32), .int (0 : Int32), .ref q319, .ref q326, .int (0 : Int32), .int (-1 : Int32), .int (0 : Int32), .int (0 : Int32), .int (0 : Int32), .int (0 : Int32), .int (0 : Int32), .ref q354, .ref q361, .ref q368, .ref q375, .ref q382, .ref q389, .ref q396, .ref q403, .ref q410, .null, .null, .null, .null, .int 0, .null, .null, .null, .null, .null]) := cZ
  clear cZ
  refine Z_aload_n C dX12_init_561 0 rfl ?_
  refine Z_bipush C dX12_init_562 (v := (6 : Int32)) (by decide +kernel) ?_
  refine Y_newa (t := 0) (a0 := (6, .inl (fun _ => 0))) C hU b415 (List.mem_of_getElem? (i := 7) rfl) rfl rfl (fun _ _ q => q) (fun _ => rfl) (by decide +kernel) rfl (by decide +kernel) (Nat.le_of_ble_eq_true rfl) (Nat.le_of_ble_eq_true rfl) dX12_init_564 (fun q417 ω418 bZ eZ => ?_)
  have b419 := bZ
  clear bZ b415
  have cZ := eZ.trans c416
  have c420 := cZ
  clear cZ eZ
  show PR M 566 [(0, .ref h)] [.ref q417, .ref h] ω418 (42, 1400)
  refine Y_putF C hI pf_X12_init_208 b419 c420 rfl rfl (Nat.le_of_ble_eq_true rfl) dX12_init_566 (fun ω421 bZ cZ => ?_)
  have b422 := bZ
  clear bZ b419
  have c423 : ω421.2 h = .inr (12, [.int (0 : Int32), .int (0 : Int32), .int (0 : Int32), .ref q10, .ref q17, .ref q24, .ref q31, .ref q38, .ref q45, .ref q52, .ref q59, .int (0 : Int32), .int (-1 : Int32), .int (0 : Int32), .int (0 : Int32), .int (0 : Int32), .ref q81, .ref q88, .ref q95, .ref q102, .ref q109, .ref q116, .ref q123, .ref q130, .int (0 : Int32), .int (0 : Int32), .int (0 : Int32), .ref q146, .int (-1 : Int32), .ref q213, .int (0 : Int32), .ref q223, .ref q230, .int (0 : Int32), .ref q240, .ref q247, .ref q254, .ref q261, .ref q268, .ref q275, .ref q282, .int (0 : Int32), .ref q292, .ref q299, .ref q306, .int (0 : Int32), .int (0 : Int32), .ref q319, .ref q326, .int (0 : Int32), .int (-1 : Int32), .int (0 : Int32), .int (0 : Int32), .int (0 : Int32), .int (0 : Int32), .int (0 : Int32), .ref q354, .ref q361, .ref q368, .ref q375, .ref q382, .ref q389, .ref q396, .ref q403, .ref q410, .ref q417, .null, .null, .null, .int 0, .null, .null, .null, .null, .null]) := cZ
  clear cZ
  refine Z_aload_n C dX12_init_569 0 rfl ?_
  refine Z_bipush C dX12_init_570 (v := (6 : Int32)) (by decide +kernel) ?_
  refine Y_newa (t := 0) (a0 := (6, .inl (fun _ => 0))) C hU b422 (List.mem_of_getElem? (i := 7) rfl) rfl rfl (fun _ _ q => q) (fun _ => rfl) (by decide +kernel) rfl (by decide +kernel) (Nat.le_of_ble_eq_true rfl) (Nat.le_of_ble_eq_true rfl) dX12_init_572 (fun q424 ω425 bZ eZ => ?_)
  have b426 := bZ
  clear bZ b422
  have cZ := eZ.trans c423
  have c427 := cZ
  clear cZ eZ
  show PR M 574 [(0, .ref h)] [.ref q424, .ref h] ω425 (43, 1406)
  refine Y_putF C hI pf_X12_init_211 b426 c427 rfl rfl (Nat.le_of_ble_eq_true rfl) dX12_init_574 (fun ω428 bZ cZ => ?_)
  have b429 := bZ
  clear bZ b426
  have c430 : ω428.2 h = .inr (12, [.int (0 : Int32), .int (0 : Int32), .int (0 : Int32), .ref q10, .ref q17, .ref q24, .ref q31, .ref q38, .ref q45, .ref q52, .ref q59, .int (0 : Int32), .int (-1 : Int32), .int (0 : Int32), .int (0 : Int32), .int (0 : Int32), .ref q81, .ref q88, .ref q95, .ref q102, .ref q109, .ref q116, .ref q123, .ref q130, .int (0 : Int32), .int (0 : Int32), .int (0 : Int32), .ref q146, .int (-1 : Int32), .ref q213, .int (0 : Int32), .ref q223, .ref q230, .int (0 : Int32), .ref q240, .ref q247, .ref q254, .ref q261, .ref q268, .ref q275, .ref q282, .int (0 : Int32), .ref q292, .ref q299, .ref q306, .int (0 : Int32), .int (0 : Int32), .ref q319, .ref q326, .int (0 : Int32), .int (-1 : Int32), .int (0 : Int32), .int (0 : Int32), .int (0 : Int32), .int (0 : Int32), .int (0 : Int32), .ref q354, .ref q361, .ref q368, .ref q375, .ref q382, .ref q389, .ref q396, .ref q403, .ref q410, .ref q417, .ref q424, .null, .null, .int 0, .null, .null, .null, .null, .null]) := cZ
  clear cZ
  refine Z_aload_n C dX12_init_577 0 rfl ?_
  refine Z_bipush C dX12_init_578 (v := (10 : Int32)) (by decide +kernel) ?_
  refine Y_newa (t := 0) (a0 := (10, .inl (fun _ => 0))) C hU b429 (List.mem_of_getElem? (i := 7) rfl) rfl rfl (fun _ _ q => q) (fun _ => rfl) (by decide +kernel) rfl (by decide +kernel) (Nat.le_of_ble_eq_true rfl) (Nat.le_of_ble_eq_true rfl) dX12_init_580 (fun q431 ω432 bZ eZ => ?_)
  have b433 : BT ω0 ω432 h [(q10, .inl (vC (mV M) 0, (6, .inl (fun _ => 0)))), (q17, .inl (vC (mV M) 0, (6, .inl (fun _ => 0)))), (q24, .inl (vC (mV M) 0, (6, .inl (fun _ => 0)))), (q31, .inl (vC (mV M) 0, (6, .inl (fun _ => 0)))), (q38, .inl (vC (mV M) 0, (6, .inl (fun _ => 0)))), (q45, .inl (vC (mV M) 0, (6, .inl (fun _ => 0)))), (q52, .inl (vC (mV M) 0, (24, .inl (fun _ => 0)))), (q59, .inl (vC (mV M) 0, (6, .inl (fun _ => 0)))), (q81, .inl (vC (mV M) 0, (100, .inl (fun _ => 0)))), (q88, .inl (vC (mV M) 0, (6, .inl (fun _ => 0)))), (q95, .inl (vC (mV M) 0, (60, .inl (fun _ => 0)))), (q102, .inl (vC (mV M) 0, (60, .inl (fun _ => 0)))), (q109, .inl (vC (mV M) 0, (60, .inl (fun _ => 0)))), (q116, .inl (vC (mV M) 0, (60, .inl (fun _ => 0)))), (q123, .inl (vC (mV M) 0, (600, .inl (fun _ => 0)))), (q130, .inl (vC (mV M) 0, (101, .inl (fun _ => 0)))), (q146, .inl (vC (mV M) 0, (19, .inl (upd (upd (upd (upd (upd (upd (upd (upd (upd (upd (upd (upd (upd (upd (upd (upd (upd (upd (upd (fun _ => 0) 0 (102 : Int32)) 1 (97 : Int32)) 2 (115 : Int32)) 3 (116 : Int32)) 4 (115 : Int32)) 5 (108 : Int32)) 6 (111 : Int32)) 7 (119 : Int32)) 8 (103 : Int32)) 9 (97 : Int32)) 10 (112 : Int32)) 11 (116 : Int32)) 12 (105 : Int32)) 13 (114 : Int32)) 14 (101 : Int32)) 15 (108 : Int32)) 16 (111 : Int32)) 17 (110 : Int32)) 18 (103 : Int32))))), (q213, .inl (vC (mV M) 2, (100, .inl (fun _ => 0)))), (q223, .inl (vC (mV M) 0, (6, .inl (fun _ => 0)))), (q230, .inl (vC (mV M) 0, (6, .inl (fun _ => 0)))), (q240, .inl (vC (mV M) 0, (6, .inl (fun _ => 0)))), (q247, .inl (vC (mV M) 0, (6, .inl (fun _ => 0)))), (q254, .inl (vC (mV M) 0, (6, .inl (fun _ => 0)))), (q261, .inl (vC (mV M) 0, (6, .inl (fun _ => 0)))), (q268, .inl (vC (mV M) 0, (6, .inl (fun _ => 0)))), (q275, .inl (vC (mV M) 0, (6, .inl (fun _ => 0)))), (q282, .inl (vC (mV M) 0, (6, .inl (fun _ => 0)))), (q292, .inl (vC (mV M) 0, (6, .inl (fun _ => 0)))), (q299, .inl (vC (mV M) 0, (6, .inl (fun _ => 0)))), (q306, .inl (vC (mV M) 0, (6, .inl (fun _ => 0)))), (q319, .inl (vC (mV M) 0, (10, .inl (fun _ => 0)))), (q326, .inl (vC (mV M) 0, (8, .inl (fun _ => 0)))), (q354, .inl (vC (mV M) 0, (6, .inl (fun _ => 0)))), (q361, .inl (vC (mV M) 0, (6, .inl (fun _ => 0)))), (q368, .inl (vC (mV M) 0, (6, .inl (fun _ => 0)))), (q375, .inl (vC (mV M) 0, (6, .inl (fun _ => 0)))), (q382, .inl (vC (mV M) 0, (6, .inl (fun _ => 0)))), (q389, .inl (vC (mV M) 0, (6, .inl (fun _ => 0)))), (q396, .inl (vC (mV M) 0, (6, .inl (fun _ => 0)))), (q403, .inl (vC (mV M) 0, (24, .inl (fun _ => 0)))), (q410, .inl (vC (mV M) 0, (6, .inl (fun _ => 0)))), (q417, .inl (vC (mV M) 0, (6, .inl (fun _ => 0)))), (q424, .inl (vC (mV M) 0, (6, .inl (fun _ => 0)))), (q431, .inl (vC (mV M) 0, (10, .inl (fun _ => 0))))] := bZ
  clear bZ b429
  have cZ := eZ.trans c430
  have c434 := cZ
  clear cZ eZ
  show PR M 582 [(0, .ref h)] [.ref q431, .ref h] ω432 (44, 1416)
  refine Y_putF C hI pf_X12_init_214 b433 c434 rfl rfl (Nat.le_of_ble_eq_true rfl) dX12_init_582 (fun ω435 bZ cZ => ?_)
  have b436 := bZ
  clear bZ b433
  have c437 : ω435.2 h = .inr (12, [.int (0 : Int32), .int (0 : Int32), .int (0 : Int32), .ref q10, .ref q17, .ref q24, .ref q31, .ref q38, .ref q45, .ref q52, .ref q59, .int (0 : Int32), .int (-1 : Int32), .int (0 : Int32), .int (0 : Int32), .int (0 : Int32), .ref q81, .ref q88, .ref q95, .ref q102, .ref q109, .ref q116, .ref q123, .ref q130, .int (0 : Int32), .int (0 : Int32), .int (0 : Int32), .ref q146, .int (-1 : Int32), .ref q213, .int (0 : Int32), .ref q223, .ref q230, .int (0 : Int32), .ref q240, .ref q247, .ref q254, .ref q261, .ref q268, .ref q275, .ref q282, .int (0 : Int32), .ref q292, .ref q299, .ref q306, .int (0 : Int32), .int (0 : Int32), .ref q319, .ref q326, .int (0 : Int32), .int (-1 : Int32), .int (0 : Int32), .int (0 : Int32), .int (0 : Int32), .int (0 : Int32), .int (0 : Int32), .ref q354, .ref q361, .ref q368, .ref q375, .ref q382, .ref q389, .ref q396, .ref q403, .ref q410, .ref q417, .ref q424, .ref q431, .null, .int 0, .null, .null, .null, .null, .null]) := cZ
  clear cZ
  refine Z_aload_n C dX12_init_585 0 rfl ?_
  refine Z_bipush C dX12_init_586 (v := (8 : Int32)) (by decide +kernel) ?_
  refine Y_newa (t := 0) (a0 := (8, .inl (fun _ => 0))) C hU b436 (List.mem_of_getElem? (i := 7) rfl) rfl rfl (fun _ _ q => q) (fun _ => rfl) (by decide +kernel) rfl (by decide +kernel) (Nat.le_of_ble_eq_true rfl) (Nat.le_of_ble_eq_true rfl) dX12_init_588 (fun q438 ω439 bZ eZ => ?_)
  have b440 := bZ
  clear bZ b436
  have cZ := eZ.trans c437
  have c441 := cZ
  clear cZ eZ
  show PR M 590 [(0, .ref h)] [.ref q438, .ref h] ω439 (45, 1424)
  refine Y_putF C hI pf_X12_init_217 b440 c441 rfl rfl (Nat.le_of_ble_eq_true rfl) dX12_init_590 (fun ω442 bZ cZ => ?_)
  have b443 := bZ
  clear bZ b440
  have c444 : ω442.2 h = .inr (12, [.int (0 : Int32), .int (0 : Int32), .int (0 : Int32), .ref q10, .ref q17, .ref q24, .ref q31, .ref q38, .ref q45, .ref q52, .ref q59, .int (0 : Int32), .int (-1 : Int32), .int (0 : Int32), .int (0 : Int32), .int (0 : Int32), .ref q81, .ref q88, .ref q95, .ref q102, .ref q109, .ref q116, .ref q123, .ref q130, .int (0 : Int32), .int (0 : Int32), .int (0 : Int32), .ref q146, .int (-1 : Int32), .ref q213, .int (0 : Int32), .ref q223, .ref q230, .int (0 : Int32), .ref q240, .ref q247, .ref q254, .ref q261, .ref q268, .ref q275, .ref q282, .int (0 : Int32), .ref q292, .ref q299, .ref q306, .int (0 : Int32), .int (0 : Int32), .ref q319, .ref q326, .int (0 : Int32), .int (-1 : Int32), .int (0 : Int32), .int (0 : Int32), .int (0 : Int32), .int (0 : Int32), .int (0 : Int32), .ref q354, .ref q361, .ref q368, .ref q375, .ref q382, .ref q389, .ref q396, .ref q403, .ref q410, .ref q417, .ref q424, .ref q431, .ref q438, .int 0, .null, .null, .null, .null, .null]) := cZ
  clear cZ
  refine Z_aload_n C dX12_init_593 0 rfl ?_
  refine Z_iconst C dX12_init_594 (v := (0 : Int32)) (by decide +kernel) ?_
  refine Y_put C pa_X12_init_220 b443 c444 rfl rfl (Nat.le_of_ble_eq_true rfl) dX12_init_595 (fun ω445 bZ cZ => ?_)
  have b446 := bZ
  clear bZ b443
  have c447 : ω445.2 h = .inr (12, [.int (0 : Int32), .int (0 : Int32), .int (0 : Int32), .ref q10, .ref q17, .ref q24, .ref q31, .ref q38, .ref q45, .ref q52, .ref q59, .int (0 : Int32), .int (-1 : Int32), .int (0 : Int32), .int (0 : Int32), .int (0 : Int32), .ref q81, .ref q88, .ref q95, .ref q102, .ref q109, .ref q116, .ref q123, .ref q130, .int (0 : Int32), .int (0 : Int32), .int (0 : Int32), .ref q146, .int (-1 : Int32), .ref q213, .int (0 : Int32), .ref q223, .ref q230, .int (0 : Int32), .ref q240, .ref q247, .ref q254, .ref q261, .ref q268, .ref q275, .ref q282, .int (0 : Int32), .ref q292, .ref q299, .ref q306, .int (0 : Int32), .int (0 : Int32), .ref q319, .ref q326, .int (0 : Int32), .int (-1 : Int32), .int (0 : Int32), .int (0 : Int32), .int (0 : Int32), .int (0 : Int32), .int (0 : Int32), .ref q354, .ref q361, .ref q368, .ref q375, .ref q382, .ref q389, .ref q396, .ref q403, .ref q410, .ref q417, .ref q424, .ref q431, .ref q438, .int (0 : Int32), .null, .null, .null, .null, .null]) := cZ
  clear cZ
  refine Z_aload_n C dX12_init_598 0 rfl ?_
  refine Z_bipush C dX12_init_599 (v := (20 : Int32)) (by decide +kernel) ?_
  refine Y_newa (t := 0) (a0 := (20, .inl (fun _ => 0))) C hU b446 (List.mem_of_getElem? (i := 7) rfl) rfl rfl (fun _ _ q => q) (fun _ => rfl) (by decide +kernel) rfl (by decide +kernel) (Nat.le_of_ble_eq_true rfl) (Nat.le_of_ble_eq_true rfl) dX12_init_601 (fun q448 ω449 bZ eZ => ?_)
  have b450 : BT ω0 ω449 h [(q10, .inl (vC (mV M) 0, (6, .inl (fun _ => 0)))), (q17, .inl (vC (mV M) 0, (6, .inl (fun _ => 0)))), (q24, .inl (vC (mV M) 0, (6, .inl (fun _ => 0)))), (q31, .inl (vC (mV M) 0, (6, .inl (fun _ => 0)))), (q38, .inl (vC (mV M) 0, (6, .inl (fun _ => 0)))), (q45, .inl (vC (mV M) 0, (6, .inl (fun _ => 0)))), (q52, .inl (vC (mV M) 0, (24, .inl (fun _ => 0)))), (q59, .inl (vC (mV M) 0, (6, .inl (fun _ => 0)))), (q81, .inl (vC (mV M) 0, (100, .inl (fun _ => 0)))), (q88, .inl (vC (mV M) 0, (6, .inl (fun _ => 0)))), (q95, .inl (vC (mV M) 0, (60, .inl (fun _ => 0)))), (q102, .inl (vC (mV M) 0, (60, .inl (fun _ => 0)))), (q109, .inl (vC (mV M) 0, (60, .inl (fun _ => 0)))), (q116, .inl (vC (mV M) 0, (60, .inl (fun _ => 0)))), (q123, .inl (vC (mV M) 0, (600, .inl (fun _ => 0)))), (q130, .inl (vC (mV M) 0, (101, .inl (fun _ => 0)))), (q146, .inl (vC (mV M) 0, (19, .inl (upd (upd (upd (upd (upd (upd (upd (upd (upd (upd (upd (upd (upd (upd (upd (upd (upd (upd (upd (fun _ => 0) 0 (102 : Int32)) 1 (97 : Int32)) 2 (115 : Int32)) 3 (116 : Int32)) 4 (115 : Int32)) 5 (108 : Int32)) 6 (111 : Int32)) 7 (119 : Int32)) 8 (103 : Int32)) 9 (97 : Int32)) 10 (112 : Int32)) 11 (116 : Int32)) 12 (105 : Int32)) 13 (114 : Int32)) 14 (101 : Int32)) 15 (108 : Int32)) 16 (111 : Int32)) 17 (110 : Int32)) 18 (103 : Int32))))), (q213, .inl (vC (mV M) 2, (100, .inl (fun _ => 0)))), (q223, .inl (vC (mV M) 0, (6, .inl (fun _ => 0)))), (q230, .inl (vC (mV M) 0, (6, .inl (fun _ => 0)))), (q240, .inl (vC (mV M) 0, (6, .inl (fun _ => 0)))), (q247, .inl (vC (mV M) 0, (6, .inl (fun _ => 0)))), (q254, .inl (vC (mV M) 0, (6, .inl (fun _ => 0)))), (q261, .inl (vC (mV M) 0, (6, .inl (fun _ => 0)))), (q268, .inl (vC (mV M) 0, (6, .inl (fun _ => 0)))), (q275, .inl (vC (mV M) 0, (6, .inl (fun _ => 0)))), (q282, .inl (vC (mV M) 0, (6, .inl (fun _ => 0)))), (q292, .inl (vC (mV M) 0, (6, .inl (fun _ => 0)))), (q299, .inl (vC (mV M) 0, (6, .inl (fun _ => 0)))), (q306, .inl (vC (mV M) 0, (6, .inl (fun _ => 0)))), (q319, .inl (vC (mV M) 0, (10, .inl (fun _ => 0)))), (q326, .inl (vC (mV M) 0, (8, .inl (fun _ => 0)))), (q354, .inl (vC (mV M) 0, (6, .inl (fun _ => 0)))), (q361, .inl (vC (mV M) 0, (6, .inl (fun _ => 0)))), (q368, .inl (vC (mV M) 0, (6, .inl (fun _ => 0)))), (q375, .inl (vC (mV M) 0, (6, .inl (fun _ => 0)))), (q382, .inl (vC (mV M) 0, (6, .inl (fun _ => 0)))), (q389, .inl (vC (mV M) 0, (6, .inl (fun _ => 0)))), (q396, .inl (vC (mV M) 0, (6, .inl (fun _ => 0)))), (q403, .inl (vC (mV M) 0, (24, .inl (fun _ => 0)))), (q410, .inl (vC (mV M) 0, (6, .inl (fun _ => 0)))), (q417, .inl (vC (mV M) 0, (6, .inl (fun _ => 0)))), (q424, .inl (vC (mV M) 0, (6, .inl (fun _ => 0)))), (q431, .inl (vC (mV M) 0, (10, .inl (fun _ => 0)))), (q438, .inl (vC (mV M) 0, (8, .inl (fun _ => 0)))), (q448, .inl (vC (mV M) 0, (20, .inl (fun _ => 0))))] := bZ
  clear bZ b446
  have cZ := eZ.trans c447
  have c451 := cZ
  clear cZ eZ
  show PR M 603 [(0, .ref h)] [.ref q448, .ref h] ω449 (46, 1444)
  refine Y_putF C hI pf_X12_init_223 b450 c451 rfl rfl (Nat.le_of_ble_eq_true rfl) dX12_init_603 (fun ω452 bZ cZ => ?_)
  have b453 := bZ
  clear bZ b450
  have c454 : ω452.2 h = .inr (12, [.int (0 : Int32), .int (0 : Int32), .int (0 : Int32), .ref q10, .ref q17, .ref q24, .ref q31, .ref q38, .ref q45, .ref q52, .ref q59, .int (0 : Int32), .int (-1 : Int32), .int (0 : Int32), .int (0 : Int32), .int (0 : Int32), .ref q81, .ref q88, .ref q95, .ref q102, .ref q109, .ref q116, .ref q123, .ref q130, .int (0 : Int32), .int (0 : Int32), .int (0 : Int32), .ref q146, .int (-1 : Int32), .ref q213, .int (0 : Int32), .ref q223, .ref q230, .int (0 : Int32), .ref q240, .ref q247, .ref q254, .ref q261, .ref q268, .ref q275, .ref q282, .int (0 : Int32), .ref q292, .ref q299, .ref q306, .int (0 : Int32), .int (0 : Int32), .ref q319, .ref q326, .int (0 : Int32), .int (-1 : Int32), .int (0 : Int32), .int (0 : Int32), .int (0 : Int32), .int (0 : Int32), .int (0 : Int32), .ref q354, .ref q361, .ref q368, .ref q375, .ref q382, .ref q389, .ref q396, .ref q403, .ref q410, .ref q417, .ref q424, .ref q431, .ref q438, .int (0 : Int32), .ref q448, .null, .null, .null, .null]) := cZ
  clear cZ
  refine Z_aload_n C dX12_init_606 0 rfl ?_
  refine Z_bipush C dX12_init_607 (v := (6 : Int32)) (by decide +kernel) ?_
  refine Y_newa (t := 0) (a0 := (6, .inl (fun _ => 0))) C hU b453 (List.mem_of_getElem? (i := 7) rfl) rfl rfl (fun _ _ q => q) (fun _ => rfl) (by decide +kernel) rfl (by decide +kernel) (Nat.le_of_ble_eq_true rfl) (Nat.le_of_ble_eq_true rfl) dX12_init_609 (fun q455 ω456 bZ eZ => ?_)
  have b457 := bZ
  clear bZ b453
  have cZ := eZ.trans c454
  have c458 := cZ
  clear cZ eZ
  show PR M 611 [(0, .ref h)] [.ref q455, .ref h] ω456 (47, 1450)
  refine Z_dup C dX12_init_611 rfl ?_
  refine Z_iconst C dX12_init_612 (v := (0 : Int32)) (by decide +kernel) ?_
  refine Z_iconst C dX12_init_613 (v := (-1 : Int32)) (by decide +kernel) ?_
  refine Y_iast (k := 46) C b457 rfl (vp_in_iff.mpr ⟨by decide +kernel, by decide +kernel⟩) dX12_init_614 (fun ω459 bZ eZ => ?_)
  have b460 : BT ω0 ω459 h [(q10, .inl (vC (mV M) 0, (6, .inl (fun _ => 0)))), (q17, .inl (vC (mV M) 0, (6, .inl (fun _ => 0)))), (q24, .inl (vC (mV M) 0, (6, .inl (fun _ => 0)))), (q31, .inl (vC (mV M) 0, (6, .inl (fun _ => 0)))), (q38, .inl (vC (mV M) 0, (6, .inl (fun _ => 0)))), (q45, .inl (vC (mV M) 0, (6, .inl (fun _ => 0)))), (q52, .inl (vC (mV M) 0, (24, .inl (fun _ => 0)))), (q59, .inl (vC (mV M) 0, (6, .inl (fun _ => 0)))), (q81, .inl (vC (mV M) 0, (100, .inl (fun _ => 0)))), (q88, .inl (vC (mV M) 0, (6, .inl (fun _ => 0)))), (q95, .inl (vC (mV M) 0, (60, .inl (fun _ => 0)))), (q102, .inl (vC (mV M) 0, (60, .inl (fun _ => 0)))), (q109, .inl (vC (mV M) 0, (60, .inl (fun _ => 0)))), (q116, .inl (vC (mV M) 0, (60, .inl (fun _ => 0)))), (q123, .inl (vC (mV M) 0, (600, .inl (fun _ => 0)))), (q130, .inl (vC (mV M) 0, (101, .inl (fun _ => 0)))), (q146, .inl (vC (mV M) 0, (19, .inl (upd (upd (upd (upd (upd (upd (upd (upd (upd (upd (upd (upd (upd (upd (upd (upd (upd (upd (upd (fun _ => 0) 0 (102 : Int32)) 1 (97 : Int32)) 2 (115 : Int32)) 3 (116 : Int32)) 4 (115 : Int32)) 5 (108 : Int32)) 6 (111 : Int32)) 7 (119 : Int32)) 8 (103 : Int32)) 9 (97 : Int32)) 10 (112 : Int32)) 11 (116 : Int32)) 12 (105 : Int32)) 13 (114 : Int32)) 14 (101 : Int32)) 15 (108 : Int32)) 16 (111 : Int32)) 17 (110 : Int32)) 18 (103 : Int32))))), (q213, .inl (vC (mV M) 2, (100, .inl (fun _ => 0)))), (q223, .inl (vC (mV M) 0, (6, .inl (fun _ => 0)))), (q230, .inl (vC (mV M) 0, (6, .inl (fun _ => 0)))), (q240, .inl (vC (mV M) 0, (6, .inl (fun _ => 0)))), (q247, .inl (vC (mV M) 0, (6, .inl (fun _ => 0)))), (q254, .inl (vC (mV M) 0, (6, .inl (fun _ => 0)))), (q261, .inl (vC (mV M) 0, (6, .inl (fun _ => 0)))), (q268, .inl (vC (mV M) 0, (6, .inl (fun _ => 0)))), (q275, .inl (vC (mV M) 0, (6, .inl (fun _ => 0)))), (q282, .inl (vC (mV M) 0, (6, .inl (fun _ => 0)))), (q292, .inl (vC (mV M) 0, (6, .inl (fun _ => 0)))), (q299, .inl (vC (mV M) 0, (6, .inl (fun _ => 0)))), (q306, .inl (vC (mV M) 0, (6, .inl (fun _ => 0)))), (q319, .inl (vC (mV M) 0, (10, .inl (fun _ => 0)))), (q326, .inl (vC (mV M) 0, (8, .inl (fun _ => 0)))), (q354, .inl (vC (mV M) 0, (6, .inl (fun _ => 0)))), (q361, .inl (vC (mV M) 0, (6, .inl (fun _ => 0)))), (q368, .inl (vC (mV M) 0, (6, .inl (fun _ => 0)))), (q375, .inl (vC (mV M) 0, (6, .inl (fun _ => 0)))), (q382, .inl (vC (mV M) 0, (6, .inl (fun _ => 0)))), (q389, .inl (vC (mV M) 0, (6, .inl (fun _ => 0)))), (q396, .inl (vC (mV M) 0, (6, .inl (fun _ => 0)))), (q403, .inl (vC (mV M) 0, (24, .inl (fun _ => 0)))), (q410, .inl (vC (mV M) 0, (6, .inl (fun _ => 0)))), (q417, .inl (vC (mV M) 0, (6, .inl (fun _ => 0)))), (q424, .inl (vC (mV M) 0, (6, .inl (fun _ => 0)))), (q431, .inl (vC (mV M) 0, (10, .inl (fun _ => 0)))), (q438, .inl (vC (mV M) 0, (8, .inl (fun _ => 0)))), (q448, .inl (vC (mV M) 0, (20, .inl (fun _ => 0)))), (q455, .inl (vC (mV M) 0, (6, .inl (upd (fun _ => 0) 0 (-1 : Int32)))))] := bZ
  clear bZ b457
  have c461 := eZ.trans c458
  clear eZ
  refine Z_dup C dX12_init_615 rfl ?_
  refine Z_iconst C dX12_init_616 (v := (1 : Int32)) (by decide +kernel) ?_
  refine Z_iconst C dX12_init_617 (v := (-1 : Int32)) (by decide +kernel) ?_
  refine Y_iast (k := 46) C b460 rfl (vp_in_iff.mpr ⟨by decide +kernel, by decide +kernel⟩) dX12_init_618 (fun ω462 bZ eZ => ?_)
  have b463 : BT ω0 ω462 h [(q10, .inl (vC (mV M) 0, (6, .inl (fun _ => 0)))), (q17, .inl (vC (mV M) 0, (6, .inl (fun _ => 0)))), (q24, .inl (vC (mV M) 0, (6, .inl (fun _ => 0)))), (q31, .inl (vC (mV M) 0, (6, .inl (fun _ => 0)))), (q38, .inl (vC (mV M) 0, (6, .inl (fun _ => 0)))), (q45, .inl (vC (mV M) 0, (6, .inl (fun _ => 0)))), (q52, .inl (vC (mV M) 0, (24, .inl (fun _ => 0)))), (q59, .inl (vC (mV M) 0, (6, .inl (fun _ => 0)))), (q81, .inl (vC (mV M) 0, (100, .inl (fun _ => 0)))), (q88, .inl (vC (mV M) 0, (6, .inl (fun _ => 0)))), (q95, .inl (vC (mV M) 0, (60, .inl (fun _ => 0)))), (q102, .inl (vC (mV M) 0, (60, .inl (fun _ => 0)))), (q109, .inl (vC (mV M) 0, (60, .inl (fun _ => 0)))), (q116, .inl (vC (mV M) 0, (60, .inl (fun _ => 0)))), (q123, .inl (vC (mV M) 0, (600, .inl (fun _ => 0)))), (q130, .inl (vC (mV M) 0, (101, .inl (fun _ => 0)))), (q146, .inl (vC (mV M) 0, (19, .inl (upd (upd (upd (upd (upd (upd (upd (upd (upd (upd (upd (upd (upd (upd (upd (upd (upd (upd (upd (fun _ => 0) 0 (102 : Int32)) 1 (97 : Int32)) 2 (115 : Int32)) 3 (116 : Int32)) 4 (115 : Int32)) 5 (108 : Int32)) 6 (111 : Int32)) 7 (119 : Int32)) 8 (103 : Int32)) 9 (97 : Int32)) 10 (112 : Int32)) 11 (116 : Int32)) 12 (105 : Int32)) 13 (114 : Int32)) 14 (101 : Int32)) 15 (108 : Int32)) 16 (111 : Int32)) 17 (110 : Int32)) 18 (103 : Int32))))), (q213, .inl (vC (mV M) 2, (100, .inl (fun _ => 0)))), (q223, .inl (vC (mV M) 0, (6, .inl (fun _ => 0)))), (q230, .inl (vC (mV M) 0, (6, .inl (fun _ => 0)))), (q240, .inl (vC (mV M) 0, (6, .inl (fun _ => 0)))), (q247, .inl (vC (mV M) 0, (6, .inl (fun _ => 0)))), (q254, .inl (vC (mV M) 0, (6, .inl (fun _ => 0)))), (q261, .inl (vC (mV M) 0, (6, .inl (fun _ => 0)))), (q268, .inl (vC (mV M) 0, (6, .inl (fun _ => 0)))), (q275, .inl (vC (mV M) 0, (6, .inl (fun _ => 0)))), (q282, .inl (vC (mV M) 0, (6, .inl (fun _ => 0)))), (q292, .inl (vC (mV M) 0, (6, .inl (fun _ => 0)))), (q299, .inl (vC (mV M) 0, (6, .inl (fun _ => 0)))), (q306, .inl (vC (mV M) 0, (6, .inl (fun _ => 0)))), (q319, .inl (vC (mV M) 0, (10, .inl (fun _ => 0)))), (q326, .inl (vC (mV M) 0, (8, .inl (fun _ => 0)))), (q354, .inl (vC (mV M) 0, (6, .inl (fun _ => 0)))), (q361, .inl (vC (mV M) 0, (6, .inl (fun _ => 0)))), (q368, .inl (vC (mV M) 0, (6, .inl (fun _ => 0)))), (q375, .inl (vC (mV M) 0, (6, .inl (fun _ => 0)))), (q382, .inl (vC (mV M) 0, (6, .inl (fun _ => 0)))), (q389, .inl (vC (mV M) 0, (6, .inl (fun _ => 0)))), (q396, .inl (vC (mV M) 0, (6, .inl (fun _ => 0)))), (q403, .inl (vC (mV M) 0, (24, .inl (fun _ => 0)))), (q410, .inl (vC (mV M) 0, (6, .inl (fun _ => 0)))), (q417, .inl (vC (mV M) 0, (6, .inl (fun _ => 0)))), (q424, .inl (vC (mV M) 0, (6, .inl (fun _ => 0)))), (q431, .inl (vC (mV M) 0, (10, .inl (fun _ => 0)))), (q438, .inl (vC (mV M) 0, (8, .inl (fun _ => 0)))), (q448, .inl (vC (mV M) 0, (20, .inl (fun _ => 0)))), (q455, .inl (vC (mV M) 0, (6, .inl (upd (upd (fun _ => 0) 0 (-1 : Int32)) 1 (-1 : Int32)))))] := bZ
  clear bZ b460
  have c464 := eZ.trans c461
  clear eZ
  refine Z_dup C dX12_init_619 rfl ?_
  refine Z_iconst C dX12_init_620 (v := (2 : Int32)) (by decide +kernel) ?_
  refine Z_iconst C dX12_init_621 (v := (-1 : Int32)) (by decide +kernel) ?_
  refine Y_iast (k := 46) C b463 rfl (vp_in_iff.mpr ⟨by decide +kernel, by decide +kernel⟩) dX12_init_622 (fun ω465 bZ eZ => ?_)
  have b466 : BT ω0 ω465 h [(q10, .inl (vC (mV M) 0, (6, .inl (fun _ => 0)))), (q17, .inl (vC (mV M) 0, (6, .inl (fun _ => 0)))), (q24, .inl (vC (mV M) 0, (6, .inl (fun _ => 0)))), (q31, .inl (vC (mV M) 0, (6, .inl (fun _ => 0)))), (q38, .inl (vC (mV M) 0, (6, .inl (fun _ => 0)))), (q45, .inl (vC (mV M) 0, (6, .inl (fun _ => 0)))), (q52, .inl (vC (mV M) 0, (24, .inl (fun _ => 0)))), (q59, .inl (vC (mV M) 0, (6, .inl (fun _ => 0)))), (q81, .inl (vC (mV M) 0, (100, .inl (fun _ => 0)))), (q88, .inl (vC (mV M) 0, (6, .inl (fun _ => 0)))), (q95, .inl (vC (mV M) 0, (60, .inl (fun _ => 0)))), (q102, .inl (vC (mV M) 0, (60, .inl (fun _ => 0)))), (q109, .inl (vC (mV M) 0, (60, .inl (fun _ => 0)))), (q116, .inl (vC (mV M) 0, (60, .inl (fun _ => 0)))), (q123, .inl (vC (mV M) 0, (600, .inl (fun _ => 0)))), (q130, .inl (vC (mV M) 0, (101, .inl (fun _ => 0)))), (q146, .inl (vC (mV M) 0, (19, .inl (upd (upd (upd (upd (upd (upd (upd (upd (upd (upd (upd (upd (upd (upd (upd (upd (upd (upd (upd (fun _ => 0) 0 (102 : Int32)) 1 (97 : Int32)) 2 (115 : Int32)) 3 (116 : Int32)) 4 (115 : Int32)) 5 (108 : Int32)) 6 (111 : Int32)) 7 (119 : Int32)) 8 (103 : Int32)) 9 (97 : Int32)) 10 (112 : Int32)) 11 (116 : Int32)) 12 (105 : Int32)) 13 (114 : Int32)) 14 (101 : Int32)) 15 (108 : Int32)) 16 (111 : Int32)) 17 (110 : Int32)) 18 (103 : Int32))))), (q213, .inl (vC (mV M) 2, (100, .inl (fun _ => 0)))), (q223, .inl (vC (mV M) 0, (6, .inl (fun _ => 0)))), (q230, .inl (vC (mV M) 0, (6, .inl (fun _ => 0)))), (q240, .inl (vC (mV M) 0, (6, .inl (fun _ => 0)))), (q247, .inl (vC (mV M) 0, (6, .inl (fun _ => 0)))), (q254, .inl (vC (mV M) 0, (6, .inl (fun _ => 0)))), (q261, .inl (vC (mV M) 0, (6, .inl (fun _ => 0)))), (q268, .inl (vC (mV M) 0, (6, .inl (fun _ => 0)))), (q275, .inl (vC (mV M) 0, (6, .inl (fun _ => 0)))), (q282, .inl (vC (mV M) 0, (6, .inl (fun _ => 0)))), (q292, .inl (vC (mV M) 0, (6, .inl (fun _ => 0)))), (q299, .inl (vC (mV M) 0, (6, .inl (fun _ => 0)))), (q306, .inl (vC (mV M) 0, (6, .inl (fun _ => 0)))), (q319, .inl (vC (mV M) 0, (10, .inl (fun _ => 0)))), (q326, .inl (vC (mV M) 0, (8, .inl (fun _ => 0)))), (q354, .inl (vC (mV M) 0, (6, .inl (fun _ => 0)))), (q361, .inl (vC (mV M) 0, (6, .inl (fun _ => 0)))), (q368, .inl (vC (mV M) 0, (6, .inl (fun _ => 0)))), (q375, .inl (vC (mV M) 0, (6, .inl (fun _ => 0)))), (q382, .inl (vC (mV M) 0, (6, .inl (fun _ => 0)))), (q389, .inl (vC (mV M) 0, (6, .inl (fun _ => 0)))), (q396, .inl (vC (mV M) 0, (6, .inl (fun _ => 0)))), (q403, .inl (vC (mV M) 0, (24, .inl (fun _ => 0)))), (q410, .inl (vC (mV M) 0, (6, .inl (fun _ => 0)))), (q417, .inl (vC (mV M) 0, (6, .inl (fun _ => 0)))), (q424, .inl (vC (mV M) 0, (6, .inl (fun _ => 0)))), (q431, .inl (vC (mV M) 0, (10, .inl (fun _ => 0)))), (q438, .inl (vC (mV M) 0, (8, .inl (fun _ => 0)))), (q448, .inl (vC (mV M) 0, (20, .inl (fun _ => 0)))), (q455, .inl (vC (mV M) 0, (6, .inl (upd (upd (upd (fun _ => 0) 0 (-1 : Int32)) 1 (-1 : Int32)) 2 (-1 : Int32)))))] := bZ
  clear bZ b463
  have c467 := eZ.trans c464
  clear eZ
  refine Z_dup C dX12_init_623 rfl ?_
  refine Z_iconst C dX12_init_624 (v := (3 : Int32)) (by decide +kernel) ?_
  refine Z_iconst C dX12_init_625 (v := (-1 : Int32)) (by decide +kernel) ?_
  refine Y_iast (k := 46) C b466 rfl (vp_in_iff.mpr ⟨by decide +kernel, by decide +kernel⟩) dX12_init_626 (fun ω468 bZ eZ => ?_)
  have b469 : BT ω0 ω468 h [(q10, .inl (vC (mV M) 0, (6, .inl (fun _ => 0)))), (q17, .inl (vC (mV M) 0, (6, .inl (fun _ => 0)))), (q24, .inl (vC (mV M) 0, (6, .inl (fun _ => 0)))), (q31, .inl (vC (mV M) 0, (6, .inl (fun _ => 0)))), (q38, .inl (vC (mV M) 0, (6, .inl (fun _ => 0)))), (q45, .inl (vC (mV M) 0, (6, .inl (fun _ => 0)))), (q52, .inl (vC (mV M) 0, (24, .inl (fun _ => 0)))), (q59, .inl (vC (mV M) 0, (6, .inl (fun _ => 0)))), (q81, .inl (vC (mV M) 0, (100, .inl (fun _ => 0)))), (q88, .inl (vC (mV M) 0, (6, .inl (fun _ => 0)))), (q95, .inl (vC (mV M) 0, (60, .inl (fun _ => 0)))), (q102, .inl (vC (mV M) 0, (60, .inl (fun _ => 0)))), (q109, .inl (vC (mV M) 0, (60, .inl (fun _ => 0)))), (q116, .inl (vC (mV M) 0, (60, .inl (fun _ => 0)))), (q123, .inl (vC (mV M) 0, (600, .inl (fun _ => 0)))), (q130, .inl (vC (mV M) 0, (101, .inl (fun _ => 0)))), (q146, .inl (vC (mV M) 0, (19, .inl (upd (upd (upd (upd (upd (upd (upd (upd (upd (upd (upd (upd (upd (upd (upd (upd (upd (upd (upd (fun _ => 0) 0 (102 : Int32)) 1 (97 : Int32)) 2 (115 : Int32)) 3 (116 : Int32)) 4 (115 : Int32)) 5 (108 : Int32)) 6 (111 : Int32)) 7 (119 : Int32)) 8 (103 : Int32)) 9 (97 : Int32)) 10 (112 : Int32)) 11 (116 : Int32)) 12 (105 : Int32)) 13 (114 : Int32)) 14 (101 : Int32)) 15 (108 : Int32)) 16 (111 : Int32)) 17 (110 : Int32)) 18 (103 : Int32))))), (q213, .inl (vC (mV M) 2, (100, .inl (fun _ => 0)))), (q223, .inl (vC (mV M) 0, (6, .inl (fun _ => 0)))), (q230, .inl (vC (mV M) 0, (6, .inl (fun _ => 0)))), (q240, .inl (vC (mV M) 0, (6, .inl (fun _ => 0)))), (q247, .inl (vC (mV M) 0, (6, .inl (fun _ => 0)))), (q254, .inl (vC (mV M) 0, (6, .inl (fun _ => 0)))), (q261, .inl (vC (mV M) 0, (6, .inl (fun _ => 0)))), (q268, .inl (vC (mV M) 0, (6, .inl (fun _ => 0)))), (q275, .inl (vC (mV M) 0, (6, .inl (fun _ => 0)))), (q282, .inl (vC (mV M) 0, (6, .inl (fun _ => 0)))), (q292, .inl (vC (mV M) 0, (6, .inl (fun _ => 0)))), (q299, .inl (vC (mV M) 0, (6, .inl (fun _ => 0)))), (q306, .inl (vC (mV M) 0, (6, .inl (fun _ => 0)))), (q319, .inl (vC (mV M) 0, (10, .inl (fun _ => 0)))), (q326, .inl (vC (mV M) 0, (8, .inl (fun _ => 0)))), (q354, .inl (vC (mV M) 0, (6, .inl (fun _ => 0)))), (q361, .inl (vC (mV M) 0, (6, .inl (fun _ => 0)))), (q368, .inl (vC (mV M) 0, (6, .inl (fun _ => 0)))), (q375, .inl (vC (mV M) 0, (6, .inl (fun _ => 0)))), (q382, .inl (vC (mV M) 0, (6, .inl (fun _ => 0)))), (q389, .inl (vC (mV M) 0, (6, .inl (fun _ => 0)))), (q396, .inl (vC (mV M) 0, (6, .inl (fun _ => 0)))), (q403, .inl (vC (mV M) 0, (24, .inl (fun _ => 0)))), (q410, .inl (vC (mV M) 0, (6, .inl (fun _ => 0)))), (q417, .inl (vC (mV M) 0, (6, .inl (fun _ => 0)))), (q424, .inl (vC (mV M) 0, (6, .inl (fun _ => 0)))), (q431, .inl (vC (mV M) 0, (10, .inl (fun _ => 0)))), (q438, .inl (vC (mV M) 0, (8, .inl (fun _ => 0)))), (q448, .inl (vC (mV M) 0, (20, .inl (fun _ => 0)))), (q455, .inl (vC (mV M) 0, (6, .inl (upd (upd (upd (upd (fun _ => 0) 0 (-1 : Int32)) 1 (-1 : Int32)) 2 (-1 : Int32)) 3 (-1 : Int32)))))] := bZ
  clear bZ b466
  have c470 := eZ.trans c467
  clear eZ
  refine Z_dup C dX12_init_627 rfl ?_
  refine Z_iconst C dX12_init_628 (v := (4 : Int32)) (by decide +kernel) ?_
  refine Z_iconst C dX12_init_629 (v := (-1 : Int32)) (by decide +kernel) ?_
  refine Y_iast (k := 46) C b469 rfl (vp_in_iff.mpr ⟨by decide +kernel, by decide +kernel⟩) dX12_init_630 (fun ω471 bZ eZ => ?_)
  have b472 : BT ω0 ω471 h [(q10, .inl (vC (mV M) 0, (6, .inl (fun _ => 0)))), (q17, .inl (vC (mV M) 0, (6, .inl (fun _ => 0)))), (q24, .inl (vC (mV M) 0, (6, .inl (fun _ => 0)))), (q31, .inl (vC (mV M) 0, (6, .inl (fun _ => 0)))), (q38, .inl (vC (mV M) 0, (6, .inl (fun _ => 0)))), (q45, .inl (vC (mV M) 0, (6, .inl (fun _ => 0)))), (q52, .inl (vC (mV M) 0, (24, .inl (fun _ => 0)))), (q59, .inl (vC (mV M) 0, (6, .inl (fun _ => 0)))), (q81, .inl (vC (mV M) 0, (100, .inl (fun _ => 0)))), (q88, .inl (vC (mV M) 0, (6, .inl (fun _ => 0)))), (q95, .inl (vC (mV M) 0, (60, .inl (fun _ => 0)))), (q102, .inl (vC (mV M) 0, (60, .inl (fun _ => 0)))), (q109, .inl (vC (mV M) 0, (60, .inl (fun _ => 0)))), (q116, .inl (vC (mV M) 0, (60, .inl (fun _ => 0)))), (q123, .inl (vC (mV M) 0, (600, .inl (fun _ => 0)))), (q130, .inl (vC (mV M) 0, (101, .inl (fun _ => 0)))), (q146, .inl (vC (mV M) 0, (19, .inl (upd (upd (upd (upd (upd (upd (upd (upd (upd (upd (upd (upd (upd (upd (upd (upd (upd (upd (upd (fun _ => 0) 0 (102 : Int32)) 1 (97 : Int32)) 2 (115 : Int32)) 3 (116 : Int32)) 4 (115 : Int32)) 5 (108 : Int32)) 6 (111 : Int32)) 7 (119 : Int32)) 8 (103 : Int32)) 9 (97 : Int32)) 10 (112 : Int32)) 11 (116 : Int32)) 12 (105 : Int32)) 13 (114 : Int32)) 14 (101 : Int32)) 15 (108 : Int32)) 16 (111 : Int32)) 17 (110 : Int32)) 18 (103 : Int32))))), (q213, .inl (vC (mV M) 2, (100, .inl (fun _ => 0)))), (q223, .inl (vC (mV M) 0, (6, .inl (fun _ => 0)))), (q230, .inl (vC (mV M) 0, (6, .inl (fun _ => 0)))), (q240, .inl (vC (mV M) 0, (6, .inl (fun _ => 0)))), (q247, .inl (vC (mV M) 0, (6, .inl (fun _ => 0)))), (q254, .inl (vC (mV M) 0, (6, .inl (fun _ => 0)))), (q261, .inl (vC (mV M) 0, (6, .inl (fun _ => 0)))), (q268, .inl (vC (mV M) 0, (6, .inl (fun _ => 0)))), (q275, .inl (vC (mV M) 0, (6, .inl (fun _ => 0)))), (q282, .inl (vC (mV M) 0, (6, .inl (fun _ => 0)))), (q292, .inl (vC (mV M) 0, (6, .inl (fun _ => 0)))), (q299, .inl (vC (mV M) 0, (6, .inl (fun _ => 0)))), (q306, .inl (vC (mV M) 0, (6, .inl (fun _ => 0)))), (q319, .inl (vC (mV M) 0, (10, .inl (fun _ => 0)))), (q326, .inl (vC (mV M) 0, (8, .inl (fun _ => 0)))), (q354, .inl (vC (mV M) 0, (6, .inl (fun _ => 0)))), (q361, .inl (vC (mV M) 0, (6, .inl (fun _ => 0)))), (q368, .inl (vC (mV M) 0, (6, .inl (fun _ => 0)))), (q375, .inl (vC (mV M) 0, (6, .inl (fun _ => 0)))), (q382, .inl (vC (mV M) 0, (6, .inl (fun _ => 0)))), (q389, .inl (vC (mV M) 0, (6, .inl (fun _ => 0)))), (q396, .inl (vC (mV M) 0, (6, .inl (fun _ => 0)))), (q403, .inl (vC (mV M) 0, (24, .inl (fun _ => 0)))), (q410, .inl (vC (mV M) 0, (6, .inl (fun _ => 0)))), (q417, .inl (vC (mV M) 0, (6, .inl (fun _ => 0)))), (q424, .inl (vC (mV M) 0, (6, .inl (fun _ => 0)))), (q431, .inl (vC (mV M) 0, (10, .inl (fun _ => 0)))), (q438, .inl (vC (mV M) 0, (8, .inl (fun _ => 0)))), (q448, .inl (vC (mV M) 0, (20, .inl (fun _ => 0)))), (q455, .inl (vC (mV M) 0, (6, .inl (upd (upd (upd (upd (upd (fun _ => 0) 0 (-1 : Int32)) 1 (-1 : Int32)) 2 (-1 : Int32)) 3 (-1 : Int32)) 4 (-1 : Int32)))))] := bZ
  clear bZ b469
  have c473 := eZ.trans c470
  clear eZ
  refine Z_dup C dX12_init_631 rfl ?_
  refine Z_iconst C dX12_init_632 (v := (5 : Int32)) (by decide +kernel) ?_
  refine Z_iconst C dX12_init_633 (v := (-1 : Int32)) (by decide +kernel) ?_
  refine Y_iast (k := 46) C b472 rfl (vp_in_iff.mpr ⟨by decide +kernel, by decide +kernel⟩) dX12_init_634 (fun ω474 bZ eZ => ?_)
  have b475 : BT ω0 ω474 h [(q10, .inl (vC (mV M) 0, (6, .inl (fun _ => 0)))), (q17, .inl (vC (mV M) 0, (6, .inl (fun _ => 0)))), (q24, .inl (vC (mV M) 0, (6, .inl (fun _ => 0)))), (q31, .inl (vC (mV M) 0, (6, .inl (fun _ => 0)))), (q38, .inl (vC (mV M) 0, (6, .inl (fun _ => 0)))), (q45, .inl (vC (mV M) 0, (6, .inl (fun _ => 0)))), (q52, .inl (vC (mV M) 0, (24, .inl (fun _ => 0)))), (q59, .inl (vC (mV M) 0, (6, .inl (fun _ => 0)))), (q81, .inl (vC (mV M) 0, (100, .inl (fun _ => 0)))), (q88, .inl (vC (mV M) 0, (6, .inl (fun _ => 0)))), (q95, .inl (vC (mV M) 0, (60, .inl (fun _ => 0)))), (q102, .inl (vC (mV M) 0, (60, .inl (fun _ => 0)))), (q109, .inl (vC (mV M) 0, (60, .inl (fun _ => 0)))), (q116, .inl (vC (mV M) 0, (60, .inl (fun _ => 0)))), (q123, .inl (vC (mV M) 0, (600, .inl (fun _ => 0)))), (q130, .inl (vC (mV M) 0, (101, .inl (fun _ => 0)))), (q146, .inl (vC (mV M) 0, (19, .inl (upd (upd (upd (upd (upd (upd (upd (upd (upd (upd (upd (upd (upd (upd (upd (upd (upd (upd (upd (fun _ => 0) 0 (102 : Int32)) 1 (97 : Int32)) 2 (115 : Int32)) 3 (116 : Int32)) 4 (115 : Int32)) 5 (108 : Int32)) 6 (111 : Int32)) 7 (119 : Int32)) 8 (103 : Int32)) 9 (97 : Int32)) 10 (112 : Int32)) 11 (116 : Int32)) 12 (105 : Int32)) 13 (114 : Int32)) 14 (101 : Int32)) 15 (108 : Int32)) 16 (111 : Int32)) 17 (110 : Int32)) 18 (103 : Int32))))), (q213, .inl (vC (mV M) 2, (100, .inl (fun _ => 0)))), (q223, .inl (vC (mV M) 0, (6, .inl (fun _ => 0)))), (q230, .inl (vC (mV M) 0, (6, .inl (fun _ => 0)))), (q240, .inl (vC (mV M) 0, (6, .inl (fun _ => 0)))), (q247, .inl (vC (mV M) 0, (6, .inl (fun _ => 0)))), (q254, .inl (vC (mV M) 0, (6, .inl (fun _ => 0)))), (q261, .inl (vC (mV M) 0, (6, .inl (fun _ => 0)))), (q268, .inl (vC (mV M) 0, (6, .inl (fun _ => 0)))), (q275, .inl (vC (mV M) 0, (6, .inl (fun _ => 0)))), (q282, .inl (vC (mV M) 0, (6, .inl (fun _ => 0)))), (q292, .inl (vC (mV M) 0, (6, .inl (fun _ => 0)))), (q299, .inl (vC (mV M) 0, (6, .inl (fun _ => 0)))), (q306, .inl (vC (mV M) 0, (6, .inl (fun _ => 0)))), (q319, .inl (vC (mV M) 0, (10, .inl (fun _ => 0)))), (q326, .inl (vC (mV M) 0, (8, .inl (fun _ => 0)))), (q354, .inl (vC (mV M) 0, (6, .inl (fun _ => 0)))), (q361, .inl (vC (mV M) 0, (6, .inl (fun _ => 0)))), (q368, .inl (vC (mV M) 0, (6, .inl (fun _ => 0)))), (q375, .inl (vC (mV M) 0, (6, .inl (fun _ => 0)))), (q382, .inl (vC (mV M) 0, (6, .inl (fun _ => 0)))), (q389, .inl (vC (mV M) 0, (6, .inl (fun _ => 0)))), (q396, .inl (vC (mV M) 0, (6, .inl (fun _ => 0)))), (q403, .inl (vC (mV M) 0, (24, .inl (fun _ => 0)))), (q410, .inl (vC (mV M) 0, (6, .inl (fun _ => 0)))), (q417, .inl (vC (mV M) 0, (6, .inl (fun _ => 0)))), (q424, .inl (vC (mV M) 0, (6, .inl (fun _ => 0)))), (q431, .inl (vC (mV M) 0, (10, .inl (fun _ => 0)))), (q438, .inl (vC (mV M) 0, (8, .inl (fun _ => 0)))), (q448, .inl (vC (mV M) 0, (20, .inl (fun _ => 0)))), (q455, .inl (vC (mV M) 0, (6, .inl (upd (upd (upd (upd (upd (upd (fun _ => 0) 0 (-1 : Int32)) 1 (-1 : Int32)) 2 (-1 : Int32)) 3 (-1 : Int32)) 4 (-1 : Int32)) 5 (-1 : Int32)))))] := bZ
  clear bZ b472
  have c476 := eZ.trans c473
  clear eZ
  refine Y_putF C hI pf_X12_init_226 b475 c476 rfl rfl (Nat.le_of_ble_eq_true rfl) dX12_init_635 (fun ω477 bZ cZ => ?_)
  have b478 := bZ
  clear bZ b475
  have c479 : ω477.2 h = .inr (12, [.int (0 : Int32), .int (0 : Int32), .int (0 : Int32), .ref q10, .ref q17, .ref q24, .ref q31, .ref q38, .ref q45, .ref q52, .ref q59, .int (0 : Int32), .int (-1 : Int32), .int (0 : Int32), .int (0 : Int32), .int (0 : Int32), .ref q81, .ref q88, .ref q95, .ref q102, .ref q109, .ref q116, .ref q123, .ref q130, .int (0 : Int32), .int (0 : Int32), .int (0 : Int32), .ref q146, .int (-1 : Int32), .ref q213, .int (0 : Int32), .ref q223, .ref q230, .int (0 : Int32), .ref q240, .ref q247, .ref q254, .ref q261, .ref q268, .ref q275, .ref q282, .int (0 : Int32), .ref q292, .ref q299, .ref q306, .int (0 : Int32), .int (0 : Int32), .ref q319, .ref q326, .int (0 : Int32), .int (-1 : Int32), .int (0 : Int32), .int (0 : Int32), .int (0 : Int32), .int (0 : Int32), .int (0 : Int32), .ref q354, .ref q361, .ref q368, .ref q375, .ref q382, .ref q389, .ref q396, .ref q403, .ref q410, .ref q417, .ref q424, .ref q431, .ref q438, .int (0 : Int32), .ref q448, .ref q455, .null, .null, .null]) := cZ
  clear cZ
  refine Z_aload_n C dX12_init_638 0 rfl ?_
  refine Z_bipush C dX12_init_639 (v := (6 : Int32)) (by decide +kernel) ?_
  refine Y_newa (t := 0) (a0 := (6, .inl (fun _ => 0))) C hU b478 (List.mem_of_getElem? (i := 7) rfl) rfl rfl (fun _ _ q => q) (fun _ => rfl) (by decide +kernel) rfl (by decide +kernel) (Nat.le_of_ble_eq_true rfl) (Nat.le_of_ble_eq_true rfl) dX12_init_641 (fun q480 ω481 bZ eZ => ?_)
  have b482 : BT ω0 ω481 h [(q10, .inl (vC (mV M) 0, (6, .inl (fun _ => 0)))), (q17, .inl (vC (mV M) 0, (6, .inl (fun _ => 0)))), (q24, .inl (vC (mV M) 0, (6, .inl (fun _ => 0)))), (q31, .inl (vC (mV M) 0, (6, .inl (fun _ => 0)))), (q38, .inl (vC (mV M) 0, (6, .inl (fun _ => 0)))), (q45, .inl (vC (mV M) 0, (6, .inl (fun _ => 0)))), (q52, .inl (vC (mV M) 0, (24, .inl (fun _ => 0)))), (q59, .inl (vC (mV M) 0, (6, .inl (fun _ => 0)))), (q81, .inl (vC (mV M) 0, (100, .inl (fun _ => 0)))), (q88, .inl (vC (mV M) 0, (6, .inl (fun _ => 0)))), (q95, .inl (vC (mV M) 0, (60, .inl (fun _ => 0)))), (q102, .inl (vC (mV M) 0, (60, .inl (fun _ => 0)))), (q109, .inl (vC (mV M) 0, (60, .inl (fun _ => 0)))), (q116, .inl (vC (mV M) 0, (60, .inl (fun _ => 0)))), (q123, .inl (vC (mV M) 0, (600, .inl (fun _ => 0)))), (q130, .inl (vC (mV M) 0, (101, .inl (fun _ => 0)))), (q146, .inl (vC (mV M) 0, (19, .inl (upd (upd (upd (upd (upd (upd (upd (upd (upd (upd (upd (upd (upd (upd (upd (upd (upd (upd (upd (fun _ => 0) 0 (102 : Int32)) 1 (97 : Int32)) 2 (115 : Int32)) 3 (116 : Int32)) 4 (115 : Int32)) 5 (108 : Int32)) 6 (111 : Int32)) 7 (119 : Int32)) 8 (103 : Int32)) 9 (97 : Int32)) 10 (112 : Int32)) 11 (116 : Int32)) 12 (105 : Int32)) 13 (114 : Int32)) 14 (101 : Int32)) 15 (108 : Int32)) 16 (111 : Int32)) 17 (110 : Int32)) 18 (103 : Int32))))), (q213, .inl (vC (mV M) 2, (100, .inl (fun _ => 0)))), (q223, .inl (vC (mV M) 0, (6, .inl (fun _ => 0)))), (q230, .inl (vC (mV M) 0, (6, .inl (fun _ => 0)))), (q240, .inl (vC (mV M) 0, (6, .inl (fun _ => 0)))), (q247, .inl (vC (mV M) 0, (6, .inl (fun _ => 0)))), (q254, .inl (vC (mV M) 0, (6, .inl (fun _ => 0)))), (q261, .inl (vC (mV M) 0, (6, .inl (fun _ => 0)))), (q268, .inl (vC (mV M) 0, (6, .inl (fun _ => 0)))), (q275, .inl (vC (mV M) 0, (6, .inl (fun _ => 0)))), (q282, .inl (vC (mV M) 0, (6, .inl (fun _ => 0)))), (q292, .inl (vC (mV M) 0, (6, .inl (fun _ => 0)))), (q299, .inl (vC (mV M) 0, (6, .inl (fun _ => 0)))), (q306, .inl (vC (mV M) 0, (6, .inl (fun _ => 0)))), (q319, .inl (vC (mV M) 0, (10, .inl (fun _ => 0)))), (q326, .inl (vC (mV M) 0, (8, .inl (fun _ => 0)))), (q354, .inl (vC (mV M) 0, (6, .inl (fun _ => 0)))), (q361, .inl (vC (mV M) 0, (6, .inl (fun _ => 0)))), (q368, .inl (vC (mV M) 0, (6, .inl (fun _ => 0)))), (q375, .inl (vC (mV M) 0, (6, .inl (fun _ => 0)))), (q382, .inl (vC (mV M) 0, (6, .inl (fun _ => 0)))), (q389, .inl (vC (mV M) 0, (6, .inl (fun _ => 0)))), (q396, .inl (vC (mV M) 0, (6, .inl (fun _ => 0)))), (q403, .inl (vC (mV M) 0, (24, .inl (fun _ => 0)))), (q410, .inl (vC (mV M) 0, (6, .inl (fun _ => 0)))), (q417, .inl (vC (mV M) 0, (6, .inl (fun _ => 0)))), (q424, .inl (vC (mV M) 0, (6, .inl (fun _ => 0)))), (q431, .inl (vC (mV M) 0, (10, .inl (fun _ => 0)))), (q438, .inl (vC (mV M) 0, (8, .inl (fun _ => 0)))), (q448, .inl (vC (mV M) 0, (20, .inl (fun _ => 0)))), (q455, .inl (vC (mV M) 0, (6, .inl (upd (upd (upd (upd (upd (upd (fun _ => 0) 0 (-1 : Int32)) 1 (-1 : Int32)) 2 (-1 : Int32)) 3 (-1 : Int32)) 4 (-1 : Int32)) 5 (-1 : Int32))))), (q480, .inl (vC (mV M) 0, (6, .inl (fun _ => 0))))] := bZ
  clear bZ b478
  have cZ := eZ.trans c479
  have c483 := cZ
  clear cZ eZ
  show PR M 643 [(0, .ref h)] [.ref q480, .ref h] ω481 (48, 1456)
  refine Y_putF C hI pf_X12_init_229 b482 c483 rfl rfl (Nat.le_of_ble_eq_true rfl) dX12_init_643 (fun ω484 bZ cZ => ?_)
  have b485 := bZ
  clear bZ b482
  have c486 : ω484.2 h = .inr (12, [.int (0 : Int32), .int (0 : Int32), .int (0 : Int32), .ref q10, .ref q17, .ref q24, .ref q31, .ref q38, .ref q45, .ref q52, .ref q59, .int (0 : Int32), .int (-1 : Int32), .int (0 : Int32), .int (0 : Int32), .int (0 : Int32), .ref q81, .ref q88, .ref q95, .ref q102, .ref q109, .ref q116, .ref q123, .ref q130, .int (0 : Int32), .int (0 : Int32), .int (0 : Int32), .ref q146, .int (-1 : Int32), .ref q213, .int (0 : Int32), .ref q223, .ref q230, .int (0 : Int32), .ref q240, .ref q247, .ref q254, .ref q261, .ref q268, .ref q275, .ref q282, .int (0 : Int32), .ref q292, .ref q299, .ref q306, .int (0 : Int32), .int (0 : Int32), .ref q319, .ref q326, .int (0 : Int32), .int (-1 : Int32), .int (0 : Int32), .int (0 : Int32), .int (0 : Int32), .int (0 : Int32), .int (0 : Int32), .ref q354, .ref q361, .ref q368, .ref q375, .ref q382, .ref q389, .ref q396, .ref q403, .ref q410, .ref q417, .ref q424, .ref q431, .ref q438, .int (0 : Int32), .ref q448, .ref q455, .ref q480, .null, .null]) := cZ
  clear cZ
  refine Z_aload_n C dX12_init_646 0 rfl ?_
  refine Z_sipush C dX12_init_647 (v := (360 : Int32)) (by decide +kernel) ?_
  refine Y_newa (t := 3) (a0 := (360, .inr (.inl (fun _ => 0)))) C hU b485 (List.mem_of_getElem? (i := 79) rfl) rfl rfl (fun _ _ q => q) (fun _ => rfl) (by decide +kernel) rfl (by decide +kernel) (Nat.le_of_ble_eq_true rfl) (Nat.le_of_ble_eq_true rfl) dX12_init_650 (fun q487 ω488 bZ eZ => ?_)
  have b489 := bZ
  clear bZ b485
  have cZ := eZ.trans c486
  have c490 := cZ
  clear cZ eZ
  show PR M 652 [(0, .ref h)] [.ref q487, .ref h] ω488 (49, 1816)
  refine Y_putF C hI pf_X12_init_232 b489 c490 rfl rfl (Nat.le_of_ble_eq_true rfl) dX12_init_652 (fun ω491 bZ cZ => ?_)
  have b492 := bZ
  clear bZ b489
  have c493 : ω491.2 h = .inr (12, [.int (0 : Int32), .int (0 : Int32), .int (0 : Int32), .ref q10, .ref q17, .ref q24, .ref q31, .ref q38, .ref q45, .ref q52, .ref q59, .int (0 : Int32), .int (-1 : Int32), .int (0 : Int32), .int (0 : Int32), .int (0 : Int32), .ref q81, .ref q88, .ref q95, .ref q102, .ref q109, .ref q116, .ref q123, .ref q130, .int (0 : Int32), .int (0 : Int32), .int (0 : Int32), .ref q146, .int (-1 : Int32), .ref q213, .int (0 : Int32), .ref q223, .ref q230, .int (0 : Int32), .ref q240, .ref q247, .ref q254, .ref q261, .ref q268, .ref q275, .ref q282, .int (0 : Int32), .ref q292, .ref q299, .ref q306, .int (0 : Int32), .int (0 : Int32), .ref q319, .ref q326, .int (0 : Int32), .int (-1 : Int32), .int (0 : Int32), .int (0 : Int32), .int (0 : Int32), .int (0 : Int32), .int (0 : Int32), .ref q354, .ref q361, .ref q368, .ref q375, .ref q382, .ref q389, .ref q396, .ref q403, .ref q410, .ref q417, .ref q424, .ref q431, .ref q438, .int (0 : Int32), .ref q448, .ref q455, .ref q480, .ref q487, .null]) := cZ
  clear cZ
  refine Z_aload_n C dX12_init_655 0 rfl ?_
  refine Z_bipush C dX12_init_656 (v := (60 : Int32)) (by decide +kernel) ?_
  refine Y_newa (t := 3) (a0 := (60, .inr (.inl (fun _ => 0)))) C hU b492 (List.mem_of_getElem? (i := 79) rfl) rfl rfl (fun _ _ q => q) (fun _ => rfl) (by decide +kernel) rfl (by decide +kernel) (Nat.le_of_ble_eq_true rfl) (Nat.le_of_ble_eq_true rfl) dX12_init_658 (fun q494 ω495 bZ eZ => ?_)
  have b496 := bZ
  clear bZ b492
  have cZ := eZ.trans c493
  have c497 := cZ
  clear cZ eZ
  show PR M 660 [(0, .ref h)] [.ref q494, .ref h] ω495 (50, 1876)
  refine Y_putF C hI pf_X12_init_236 b496 c497 rfl rfl (Nat.le_of_ble_eq_true rfl) dX12_init_660 (fun ω498 bZ cZ => ?_)
  have b499 : BT ω0 ω498 h [(q10, .inl (vC (mV M) 0, (6, .inl (fun _ => 0)))), (q17, .inl (vC (mV M) 0, (6, .inl (fun _ => 0)))), (q24, .inl (vC (mV M) 0, (6, .inl (fun _ => 0)))), (q31, .inl (vC (mV M) 0, (6, .inl (fun _ => 0)))), (q38, .inl (vC (mV M) 0, (6, .inl (fun _ => 0)))), (q45, .inl (vC (mV M) 0, (6, .inl (fun _ => 0)))), (q52, .inl (vC (mV M) 0, (24, .inl (fun _ => 0)))), (q59, .inl (vC (mV M) 0, (6, .inl (fun _ => 0)))), (q81, .inl (vC (mV M) 0, (100, .inl (fun _ => 0)))), (q88, .inl (vC (mV M) 0, (6, .inl (fun _ => 0)))), (q95, .inl (vC (mV M) 0, (60, .inl (fun _ => 0)))), (q102, .inl (vC (mV M) 0, (60, .inl (fun _ => 0)))), (q109, .inl (vC (mV M) 0, (60, .inl (fun _ => 0)))), (q116, .inl (vC (mV M) 0, (60, .inl (fun _ => 0)))), (q123, .inl (vC (mV M) 0, (600, .inl (fun _ => 0)))), (q130, .inl (vC (mV M) 0, (101, .inl (fun _ => 0)))), (q146, .inl (vC (mV M) 0, (19, .inl (upd (upd (upd (upd (upd (upd (upd (upd (upd (upd (upd (upd (upd (upd (upd (upd (upd (upd (upd (fun _ => 0) 0 (102 : Int32)) 1 (97 : Int32)) 2 (115 : Int32)) 3 (116 : Int32)) 4 (115 : Int32)) 5 (108 : Int32)) 6 (111 : Int32)) 7 (119 : Int32)) 8 (103 : Int32)) 9 (97 : Int32)) 10 (112 : Int32)) 11 (116 : Int32)) 12 (105 : Int32)) 13 (114 : Int32)) 14 (101 : Int32)) 15 (108 : Int32)) 16 (111 : Int32)) 17 (110 : Int32)) 18 (103 : Int32))))), (q213, .inl (vC (mV M) 2, (100, .inl (fun _ => 0)))), (q223, .inl (vC (mV M) 0, (6, .inl (fun _ => 0)))), (q230, .inl (vC (mV M) 0, (6, .inl (fun _ => 0)))), (q240, .inl (vC (mV M) 0, (6, .inl (fun _ => 0)))), (q247, .inl (vC (mV M) 0, (6, .inl (fun _ => 0)))), (q254, .inl (vC (mV M) 0, (6, .inl (fun _ => 0)))), (q261, .inl (vC (mV M) 0, (6, .inl (fun _ => 0)))), (q268, .inl (vC (mV M) 0, (6, .inl (fun _ => 0)))), (q275, .inl (vC (mV M) 0, (6, .inl (fun _ => 0)))), (q282, .inl (vC (mV M) 0, (6, .inl (fun _ => 0)))), (q292, .inl (vC (mV M) 0, (6, .inl (fun _ => 0)))), (q299, .inl (vC (mV M) 0, (6, .inl (fun _ => 0)))), (q306, .inl (vC (mV M) 0, (6, .inl (fun _ => 0)))), (q319, .inl (vC (mV M) 0, (10, .inl (fun _ => 0)))), (q326, .inl (vC (mV M) 0, (8, .inl (fun _ => 0)))), (q354, .inl (vC (mV M) 0, (6, .inl (fun _ => 0)))), (q361, .inl (vC (mV M) 0, (6, .inl (fun _ => 0)))), (q368, .inl (vC (mV M) 0, (6, .inl (fun _ => 0)))), (q375, .inl (vC (mV M) 0, (6, .inl (fun _ => 0)))), (q382, .inl (vC (mV M) 0, (6, .inl (fun _ => 0)))), (q389, .inl (vC (mV M) 0, (6, .inl (fun _ => 0)))), (q396, .inl (vC (mV M) 0, (6, .inl (fun _ => 0)))), (q403, .inl (vC (mV M) 0, (24, .inl (fun _ => 0)))), (q410, .inl (vC (mV M) 0, (6, .inl (fun _ => 0)))), (q417, .inl (vC (mV M) 0, (6, .inl (fun _ => 0)))), (q424, .inl (vC (mV M) 0, (6, .inl (fun _ => 0)))), (q431, .inl (vC (mV M) 0, (10, .inl (fun _ => 0)))), (q438, .inl (vC (mV M) 0, (8, .inl (fun _ => 0)))), (q448, .inl (vC (mV M) 0, (20, .inl (fun _ => 0)))), (q455, .inl (vC (mV M) 0, (6, .inl (upd (upd (upd (upd (upd (upd (fun _ => 0) 0 (-1 : Int32)) 1 (-1 : Int32)) 2 (-1 : Int32)) 3 (-1 : Int32)) 4 (-1 : Int32)) 5 (-1 : Int32))))), (q480, .inl (vC (mV M) 0, (6, .inl (fun _ => 0)))), (q487, .inl (vC (mV M) 3, (360, .inr (.inl (fun _ => 0))))), (q494, .inl (vC (mV M) 3, (60, .inr (.inl (fun _ => 0)))))] := bZ
  clear bZ b496
  have c500 : ω498.2 h = .inr (12, [.int (0 : Int32), .int (0 : Int32), .int (0 : Int32), .ref q10, .ref q17, .ref q24, .ref q31, .ref q38, .ref q45, .ref q52, .ref q59, .int (0 : Int32), .int (-1 : Int32), .int (0 : Int32), .int (0 : Int32), .int (0 : Int32), .ref q81, .ref q88, .ref q95, .ref q102, .ref q109, .ref q116, .ref q123, .ref q130, .int (0 : Int32), .int (0 : Int32), .int (0 : Int32), .ref q146, .int (-1 : Int32), .ref q213, .int (0 : Int32), .ref q223, .ref q230, .int (0 : Int32), .ref q240, .ref q247, .ref q254, .ref q261, .ref q268, .ref q275, .ref q282, .int (0 : Int32), .ref q292, .ref q299, .ref q306, .int (0 : Int32), .int (0 : Int32), .ref q319, .ref q326, .int (0 : Int32), .int (-1 : Int32), .int (0 : Int32), .int (0 : Int32), .int (0 : Int32), .int (0 : Int32), .int (0 : Int32), .ref q354, .ref q361, .ref q368, .ref q375, .ref q382, .ref q389, .ref q396, .ref q403, .ref q410, .ref q417, .ref q424, .ref q431, .ref q438, .int (0 : Int32), .ref q448, .ref q455, .ref q480, .ref q487, .ref q494]) := cZ
  clear cZ
  exact Z_vret C dX12_init_663 ⟨q10, q17, q24, q31, q38, q45, q52, q59, q81, q88, q95, q102, q109, q116, q123, q130, q146, q213, q223, q230, q240, q247, q254, q261, q268, q275, q282, q292, q299, q306, q319, q326, q354, q361, q368, q375, q382, q389, q396, q403, q410, q417, q424, q431, q438, q448, q455, q480, q487, q494, b499, c500⟩
/-! the row: who stands where -/
noncomputable def HL (σ : Sg) (a : Int32) (h : Nat) : Prop := ∀ m : Nat, (m : Int) < (gi σ 74 0).toInt → nI m ≠ a → ∃ k : Nat, (k : Int) < (gi σ 74 0).toInt ∧ k ≠ h ∧ gi σ 110 k = nI m
theorem HL_start {σ : Sg} {a : Int32} {h : Nat} (q : PL σ) (e : gi σ 110 h = a) : HL σ a h := fun m hm hne => by
  obtain ⟨k, hk, ek⟩ := q m hm
  exact ⟨k, hk, fun z => hne (by rw [← ek, z, e]), ek⟩
theorem HL_step {σ : Sg} {a v : Int32} {h h' : Nat} (q : HL σ a h) (hv : v = gi σ 110 h') (hne : h ≠ h') (hc : (h : Int) < (gi σ 74 0).toInt) : HL (si σ 110 h v) a h' := fun m hm hma => by
  rw [gi_si_ne (Or.inl (by decide +kernel))] at hm ⊢
  obtain ⟨k, hk, kh, ek⟩ := q m hm hma
  by_cases e : k = h'
  · exact ⟨h, hc, hne, by rw [gi_si_eq, hv, ← e]; exact ek⟩
  · exact ⟨k, hk, e, by rw [gi_si_ne (Or.inr kh)]; exact ek⟩
theorem PL_end {σ : Sg} {a : Int32} {h : Nat} (q : HL σ a h) (hc : (h : Int) < (gi σ 74 0).toInt) : PL (si σ 110 h a) := fun m hm => by
  rw [gi_si_ne (Or.inl (by decide +kernel))] at hm ⊢
  by_cases e : nI m = a
  · exact ⟨h, hc, by rw [gi_si_eq]; exact e.symm⟩
  · obtain ⟨k, hk, kh, ek⟩ := q m hm e
    exact ⟨k, hk, by rw [gi_si_ne (Or.inr kh)]; exact ek⟩
noncomputable def HZ (σ : Sg) (a x2 x4 : Int32) : Prop := (x4.toInt ≤ x2.toInt → HL σ a x2.toNatClampNeg) ∧ (x2.toInt < x4.toInt → HL σ a x4.toNatClampNeg)
theorem HL_tn {σ : Sg} {a x y : Int32} (e : x.toInt = y.toInt) (q : HL σ a x.toNatClampNeg) : HL σ a y.toNatClampNeg := by rw [← tnc e]; exact q
/-- a row holds what another held at first, as far as the n-th -/
noncomputable def CD (σ0 σ : Sg) (a b : Nat) (n : Int) : Prop := ∀ k : Nat, (k : Int) < n → gi σ a k = gi σ0 b k
theorem CD_0 {σ0 σ : Sg} {a b : Nat} {n : Int} (h : n ≤ 0) : CD σ0 σ a b n := fun k hk => by omega
theorem CD_rf {σ : Sg} {a : Nat} {n : Int} : CD σ σ a a n := fun _ _ => rfl
theorem CD_st {σ0 σ : Sg} {a b c j : Nat} {v : Int32} {n : Int} (h : CD σ0 σ a b n) (hc : c ≠ a) : CD σ0 (si σ c j v) a b n := fun k hk => (gi_si_ne (Or.inl (fun e => hc e.symm))).trans (h k hk)
theorem CD_fr {S F : List Nat} {σ0 σ σ' : Sg} {a b : Nat} {n : Int} (h : CD σ0 σ a b n) (f : Fr S F σ σ') (ha : a ∉ S) : CD σ0 σ' a b n := fun k hk => (congrFun (f.1 a ha).1 k).trans (h k hk)
theorem CD_step {σ0 σ : Sg} {a b c : Nat} {x : Int32} (h : CD σ0 σ a b x.toInt) (l : CD σ0 σ c b 6) (h0 : 0 ≤ x.toInt) (h6 : x.toInt ≤ 5) : CD σ0 (si σ a x.toNatClampNeg (gi σ c x.toNatClampNeg)) a b (x.toInt + 1) := fun k hk => by
  have e := cl_eq h0
  by_cases z : k = x.toNatClampNeg
  · rw [z, gi_si_eq]; exact l _ (by omega)
  · rw [gi_si_ne (Or.inr z)]; exact h k (by omega)
theorem CD_le {σ0 σ : Sg} {a b : Nat} {n m : Int} (h : CD σ0 σ a b n) (q : m ≤ n) : CD σ0 σ a b m := fun k hk => h k (by omega)
theorem PL_cd {σ σ' : Sg} (m : MI σ) (h : PL σ) (c : CD σ σ' 110 110 6) (e : (gi σ' 74 0).toInt = (gi σ 74 0).toInt) : PL σ' := fun j hj => by
  rw [e] at hj ⊢
  obtain ⟨k, hk, ek⟩ := h j hj
  have b := MI_f0 m
  exact ⟨k, hk, (c k (by omega)).trans ek⟩
/-- the image's row -/
noncomputable def PLI (σ : Sg) : Prop := ∀ m : Nat, (m : Int) < (gi σ 74 51).toInt → ∃ k : Nat, (k : Int) < (gi σ 74 51).toInt ∧ gi σ 162 k = nI m
theorem PLI_fr {S F : List Nat} {σ σ' : Sg} (h : PLI σ) (f : Fr S F σ σ') (h1 : 162 ∉ S) (h2 : 51 ∉ F) : PLI σ' := by
  intro m hm
  rw [f.2.1 51 h2] at hm ⊢
  obtain ⟨k, hk, e⟩ := h m hm
  exact ⟨k, hk, (congrFun (f.1 162 h1).1 k).trans e⟩
theorem PLI_mk {σ σ' : Sg} (m : MI σ) (h : PL σ) (c : CD σ σ' 162 110 6) (e : (gi σ' 74 51).toInt = (gi σ 74 0).toInt) : PLI σ' := fun j hj => by
  rw [e] at hj ⊢
  obtain ⟨k, hk, ek⟩ := h j hj
  have b := MI_f0 m
  exact ⟨k, hk, (c k (by omega)).trans ek⟩
theorem PL_un {σ σ' : Sg} (m : MI σ) (h : PLI σ) (c : CD σ σ' 110 162 6) (e : (gi σ' 74 0).toInt = (gi σ 74 51).toInt) : PL σ' := fun j hj => by
  rw [e] at hj ⊢
  obtain ⟨k, hk, ek⟩ := h j hj
  have b := MI_f51 m
  exact ⟨k, hk, (c k (by omega)).trans ek⟩
noncomputable def PLx (σ : Sg) (n : Int) : Prop := ∀ m : Nat, (m : Int) < n → ∃ k : Nat, (k : Int) < n ∧ gi σ 110 k = nI m
theorem PLx_new {σ : Sg} {x : Int32} (h : PL σ) (h0 : 0 ≤ x.toInt) (e : x.toInt = (gi σ 74 0).toInt) : PLx (si σ 110 x.toNatClampNeg x) ((gi σ 74 0).toInt + 1) := fun m hm => by
  have ec := cl_eq h0
  have ex : x = nI x.toNatClampNeg := Int32.toInt_inj.mp (by rw [nI_toInt (by have := Int32.toInt_lt x; omega)]; exact ec.symm)
  by_cases z : m = x.toNatClampNeg
  · exact ⟨x.toNatClampNeg, by omega, by rw [gi_si_eq, z]; exact ex⟩
  · obtain ⟨k, hk, ek⟩ := h m (by omega)
    exact ⟨k, by omega, by rw [gi_si_ne (Or.inr (by omega))]; exact ek⟩
theorem PLx_st {σ : Sg} {n : Int} {c j : Nat} {v : Int32} (h : PLx σ n) (hc : c ≠ 110) : PLx (si σ c j v) n := fun m hm => by
  obtain ⟨k, hk, ek⟩ := h m hm
  exact ⟨k, hk, by rw [gi_si_ne (Or.inl (fun e => hc e.symm))]; exact ek⟩
theorem PL_st {σ : Sg} {c j : Nat} {v : Int32} (h : PL σ) (hc : c ≠ 110) (h74 : c ≠ 74) : PL (si σ c j v) := fun m hm => by
  rw [gi_si_ne (Or.inl (fun e => h74 e.symm))] at hm ⊢
  obtain ⟨k, hk, ek⟩ := h m hm
  exact ⟨k, hk, by rw [gi_si_ne (Or.inl (fun e => hc e.symm))]; exact ek⟩
theorem CD_tr {σ0 σ σ' : Sg} {a : Nat} {n : Int} (h : CD σ0 σ a a n) (g : CD σ σ' a a n) : CD σ0 σ' a a n := fun k hk => (g k hk).trans (h k hk)
/-! the orders, one after the other -/
theorem has_bit : ∀ n, n < 32 → ∀ m, m < 6 → (((nI n >>> (nI m &&& 31)) &&& (1 : Int32)) = 1 ↔ n.testBit m = true) := by decide +kernel
noncomputable def pcn (n m : Nat) : Nat := ((List.range 5).filter (fun i => decide (m ≤ i) && n.testBit i)).length
theorem pcn_t : ∀ n, n < 32 → ∀ m, m < 6 → n.testBit m = true → pcn n m = pcn n (m + 1) + 1 := by decide +kernel
theorem pcn_f : ∀ n, n < 32 → ∀ m, m < 6 → n.testBit m = false → pcn n m = pcn n (m + 1) := by decide +kernel
theorem pcn_5 : ∀ n, n < 32 → ∀ m, m < 6 → 0 < pcn n m → m < 5 := by decide +kernel
theorem lay_bits : ∀ c, c < 6 → ((1 : Int32) <<< (nI c &&& 31)) - (1 : Int32) = nI (2 ^ c - 1) ∧ 2 ^ c - 1 < 32 ∧ pcn (2 ^ c - 1) 0 = c := by decide +kernel
theorem lay_clr : ∀ n, n < 32 → ∀ m, m < 5 → n.testBit m = true → (nI n &&& (((1 : Int32) <<< (nI m &&& 31)) ^^^ (-1 : Int32))) = nI (n - 2 ^ m) ∧ n - 2 ^ m < 32 ∧ pcn (n - 2 ^ m) 0 + 1 = pcn n 0 := by decide +kernel
theorem asN {x : Int32} (h0 : 0 ≤ x.toInt) : x = nI x.toNatClampNeg := Int32.toInt_inj.mp (by rw [nI_toInt (by have := Int32.toInt_lt x; have := cl_eq h0; omega)]; exact (cl_eq h0).symm)
/-- the bits that are left: how many -/
noncomputable def LB (x : Int32) (c : Int) : Prop := ∃ n : Nat, n < 32 ∧ x = nI n ∧ (pcn n 0 : Int) = c
noncomputable def LQ (x m nth : Int32) (c : Int) : Prop := ∃ n : Nat, n < 32 ∧ x = nI n ∧ (pcn n 0 : Int) = c ∧ 0 ≤ nth.toInt ∧ nth.toInt < (pcn n m.toNatClampNeg : Int)
noncomputable def L9 (x m nth : Int32) (c : Int) : Prop := ∃ n : Nat, n < 32 ∧ x = nI n ∧ (pcn n 0 : Int) = c ∧ 0 ≤ nth.toInt ∧ nth.toInt < (pcn n m.toNatClampNeg : Int) ∧ (n.testBit m.toNatClampNeg = true → 0 < nth.toInt)
theorem LB_0 {x v : Int32} (h0 : 0 ≤ x.toInt) (h5 : x.toInt ≤ 5) (e : v = ((1 : Int32) <<< (x &&& 31)) - (1 : Int32)) : LB v x.toInt := by
  have ec := cl_eq h0
  have q := lay_bits x.toNatClampNeg (by omega)
  rw [← asN h0] at q
  exact ⟨_, q.2.1, e.trans q.1, by rw [q.2.2]; exact ec⟩
theorem LQ_0 {x m nth : Int32} {c : Int} (h : LB x c) (hm : m.toInt = 0) (h0 : 0 ≤ nth.toInt) (h1 : nth.toInt < c) : LQ x m nth c := by
  obtain ⟨n, hn, e, p⟩ := h
  refine ⟨n, hn, e, p, h0, ?_⟩
  rw [show m.toNatClampNeg = 0 from congrArg Int.toNat hm, p]; exact h1
theorem LQ_le {x m nth : Int32} {c : Int} (h : LQ x m nth c) (h0 : 0 ≤ m.toInt) (h5 : m.toInt ≤ 5) : m.toInt ≤ 4 := by
  obtain ⟨n, hn, e, p, n0, n1⟩ := h
  have ec := cl_eq h0
  have := pcn_5 n hn m.toNatClampNeg (by omega) (by omega)
  omega
/-- what 'has' says of a bit -/
noncomputable def BQ (r x m : Int32) : Prop := ∀ n j : Nat, n < 32 → j < 6 → x = nI n → m = nI j → (r.toInt = 1 ∧ n.testBit j = true) ∨ (r.toInt = 0 ∧ n.testBit j = false)
theorem BQ_0 {x m : Int32} (h : ¬ ((x >>> (m &&& 31)) &&& (1 : Int32)) = (1 : Int32)) : BQ 0 x m := fun n j hn hj e1 e2 => by
  subst e1 e2
  refine Or.inr ⟨rfl, ?_⟩
  cases hb : n.testBit j with
  | false => rfl
  | true => exact absurd ((has_bit n hn j hj).mpr hb) h
theorem BQ_1 {x m : Int32} (h : ((x >>> (m &&& 31)) &&& (1 : Int32)) = (1 : Int32)) : BQ 1 x m := fun n j hn hj e1 e2 => by
  subst e1 e2
  exact Or.inl ⟨rfl, (has_bit n hn j hj).mp h⟩
theorem L9_f {r x m nth : Int32} {c : Int} (h : LQ x m nth c) (q : BQ r x m) (h0 : 0 ≤ m.toInt) (h5 : m.toInt ≤ 5) (hr : r.toInt = 0) : L9 x m nth c := by
  obtain ⟨n, hn, e, p, n0, n1⟩ := h
  have ec := cl_eq h0
  refine ⟨n, hn, e, p, n0, n1, fun z => ?_⟩
  rcases q n m.toNatClampNeg hn (by omega) e (asN h0) with y | y
  · omega
  · rw [y.2] at z; cases z
theorem L9_t {x m nth : Int32} {c : Int} (h : LQ x m nth c) (hn0 : 0 < nth.toInt) : L9 x m nth c := by
  obtain ⟨n, hn, e, p, n0, n1⟩ := h
  exact ⟨n, hn, e, p, n0, n1, fun _ => hn0⟩
theorem LQ_sf {r x m m' nth nth' : Int32} {c : Int} (h : L9 x m nth c) (q : BQ r x m) (h0 : 0 ≤ m.toInt) (h5 : m.toInt ≤ 4) (hr : r.toInt = 0) (em : m'.toInt = m.toInt + 1) (en : nth'.toInt = nth.toInt) : LQ x m' nth' c := by
  obtain ⟨n, hn, e, p, n0, n1, n2⟩ := h
  have ec := cl_eq h0
  have ec' := cl_eq (x := m') (by omega)
  rcases q n m.toNatClampNeg hn (by omega) e (asN h0) with y | y
  · omega
  · have z := pcn_f n hn m.toNatClampNeg (by omega) y.2
    refine ⟨n, hn, e, p, by omega, ?_⟩
    rw [show m'.toNatClampNeg = m.toNatClampNeg + 1 from by omega, ← z, en]; exact n1
theorem LQ_st {r x m m' nth nth' : Int32} {c : Int} (h : L9 x m nth c) (q : BQ r x m) (h0 : 0 ≤ m.toInt) (h5 : m.toInt ≤ 4) (hr : r.toInt = 1) (em : m'.toInt = m.toInt + 1) (en : nth'.toInt = nth.toInt - 1) : LQ x m' nth' c := by
  obtain ⟨n, hn, e, p, n0, n1, n2⟩ := h
  have ec := cl_eq h0
  have ec' := cl_eq (x := m') (by omega)
  rcases q n m.toNatClampNeg hn (by omega) e (asN h0) with y | y
  · have z := pcn_t n hn m.toNatClampNeg (by omega) y.2
    have w := n2 y.2
    refine ⟨n, hn, e, p, by omega, ?_⟩
    rw [show m'.toNatClampNeg = m.toNatClampNeg + 1 from by omega]; omega
  · omega
theorem L9_le {x m nth : Int32} {c : Int} (h : L9 x m nth c) (h0 : 0 ≤ m.toInt) (h5 : m.toInt ≤ 5) : m.toInt ≤ 4 := by
  obtain ⟨n, hn, e, p, n0, n1, n2⟩ := h
  exact LQ_le ⟨n, hn, e, p, n0, n1⟩ h0 h5
theorem LB_clr {r x m nth v : Int32} {c c' : Int} (h : LQ x m nth c) (q : BQ r x m) (h0 : 0 ≤ m.toInt) (h5 : m.toInt ≤ 4) (hr : r.toInt = 1) (e : v = x &&& (((1 : Int32) <<< (m &&& 31)) ^^^ (-1 : Int32))) (hc : c' = c - 1) : LB v c' := by
  obtain ⟨n, hn, ex, p, n0, n1⟩ := h
  have ec := cl_eq h0
  rcases q n m.toNatClampNeg hn (by omega) ex (asN h0) with y | y
  · have z := lay_clr n hn m.toNatClampNeg (by omega) y.2
    rw [← asN h0, ← ex] at z
    exact ⟨_, z.2.1, e.trans z.1, by omega⟩
  · omega
/-- how many ways: k one less than told, in all -/
noncomputable def FK (k w : Int) : Prop := (k = 2 ∧ w = 1) ∨ (k = 3 ∧ w = 2) ∨ (k = 4 ∧ w = 6) ∨ (k = 5 ∧ w = 24) ∨ (k = 6 ∧ w = 120)
noncomputable def FCT (c w : Int) : Prop := (c = 0 ∧ w = 1) ∨ (c = 1 ∧ w = 1) ∨ (c = 2 ∧ w = 2) ∨ (c = 3 ∧ w = 6) ∨ (c = 4 ∧ w = 24) ∨ (c = 5 ∧ w = 120)
theorem FK_step {k w : Int} (h : FK k w) (h5 : k ≤ 5) : FK (k + 1) (w * k) ∧ 1 ≤ w * k ∧ w * k ≤ 120 := by
  rcases h with ⟨rfl, rfl⟩ | ⟨rfl, rfl⟩ | ⟨rfl, rfl⟩ | ⟨rfl, rfl⟩ | ⟨rfl, rfl⟩
  · exact ⟨Or.inr (Or.inl ⟨rfl, rfl⟩), by decide +kernel, by decide +kernel⟩
  · exact ⟨Or.inr (Or.inr (Or.inl ⟨rfl, rfl⟩)), by decide +kernel, by decide +kernel⟩
  · exact ⟨Or.inr (Or.inr (Or.inr (Or.inl ⟨rfl, rfl⟩))), by decide +kernel, by decide +kernel⟩
  · exact ⟨Or.inr (Or.inr (Or.inr (Or.inr ⟨rfl, rfl⟩))), by decide +kernel, by decide +kernel⟩
  · omega
theorem FK_F {k w c : Int} (h : FK k w) (h0 : 0 ≤ c) (h1 : c < k) (h2 : k = 2 ∨ k ≤ c + 1) : FCT c w := by
  rcases h with ⟨rfl, rfl⟩ | ⟨rfl, rfl⟩ | ⟨rfl, rfl⟩ | ⟨rfl, rfl⟩ | ⟨rfl, rfl⟩
  · rcases (show c = 0 ∨ c = 1 by omega) with rfl | rfl
    · exact Or.inl ⟨rfl, rfl⟩
    · exact Or.inr (Or.inl ⟨rfl, rfl⟩)
  · obtain rfl : c = 2 := by omega
    exact Or.inr (Or.inr (Or.inl ⟨rfl, rfl⟩))
  · obtain rfl : c = 3 := by omega
    exact Or.inr (Or.inr (Or.inr (Or.inl ⟨rfl, rfl⟩)))
  · obtain rfl : c = 4 := by omega
    exact Or.inr (Or.inr (Or.inr (Or.inr (Or.inl ⟨rfl, rfl⟩))))
  · obtain rfl : c = 5 := by omega
    exact Or.inr (Or.inr (Or.inr (Or.inr (Or.inr ⟨rfl, rfl⟩))))
theorem FCT_step {c w : Int} (h : FCT c w) (h1 : 1 ≤ c) : FCT (c - 1) (w / c) ∧ 1 ≤ w / c ∧ w / c ≤ 24 ∧ w = w / c * c := by
  rcases h with ⟨rfl, rfl⟩ | ⟨rfl, rfl⟩ | ⟨rfl, rfl⟩ | ⟨rfl, rfl⟩ | ⟨rfl, rfl⟩ | ⟨rfl, rfl⟩
  · omega
  · exact ⟨Or.inl ⟨rfl, rfl⟩, by decide +kernel, by decide +kernel, by decide +kernel⟩
  · exact ⟨Or.inr (Or.inl ⟨rfl, rfl⟩), by decide +kernel, by decide +kernel, by decide +kernel⟩
  · exact ⟨Or.inr (Or.inr (Or.inl ⟨rfl, rfl⟩)), by decide +kernel, by decide +kernel, by decide +kernel⟩
  · exact ⟨Or.inr (Or.inr (Or.inr (Or.inl ⟨rfl, rfl⟩))), by decide +kernel, by decide +kernel, by decide +kernel⟩
  · exact ⟨Or.inr (Or.inr (Or.inr (Or.inr (Or.inl ⟨rfl, rfl⟩)))), by decide +kernel, by decide +kernel, by decide +kernel⟩
theorem nth_lt {x w d c : Int} (h1 : x < w) (hw : w = d * c) (hd : 1 ≤ d) : x / d < c := Int.ediv_lt_of_lt_mul (by omega) (by rw [Int.mul_comm, ← hw]; exact h1)
theorem L9_pos {r x m nth : Int32} {c : Int} (h : L9 x m nth c) (q : BQ r x m) (h0 : 0 ≤ m.toInt) (h5 : m.toInt ≤ 5) (hr : r.toInt = 1) : 0 < nth.toInt := by
  obtain ⟨n, hn, e, p, n0, n1, n2⟩ := h
  have ec := cl_eq h0
  rcases q n m.toNatClampNeg hn (by omega) e (asN h0) with y | y
  · exact n2 y.2
  · omega
/-! the state with more cells -/
noncomputable def vext (V : Vx) (L : List (Nat × Nat)) : Vx := (vD V, vC V, vA V, (fun id => match L.find? (fun x => x.1 == id) with
  | some x => x.2
  | none => va V id), vL V ++ L.map (fun x => x.1), vX V)
theorem vext_ids {V : Vx} {L : List (Nat × Nat)} : ids (vext V L) = ids V ++ L.map (fun x => x.1) := (List.append_assoc _ _ _).symm
theorem vext_old {V : Vx} {L : List (Nat × Nat)} {id : Nat} (h : id ∉ L.map (fun x => x.1)) : va (vext V L) id = va V id := by
  show (match L.find? (fun x => x.1 == id) with
    | some x => x.2
    | none => va V id) = _
  cases hf : L.find? (fun x => x.1 == id) with
  | none => rfl
  | some x =>
    have h1 := List.find?_some hf
    have h2 := List.mem_of_find?_eq_some hf
    have h3 : x.1 = id := by simpa using h1
    exact absurd (List.mem_map.mpr ⟨x, h2, h3⟩) h
theorem vext_new {V : Vx} {L : List (Nat × Nat)} {x : Nat × Nat} (hn : (L.map (fun x => x.1)).Nodup) (h : x ∈ L) : va (vext V L) x.1 = x.2 := by
  show (match L.find? (fun y => y.1 == x.1) with
    | some y => y.2
    | none => va V x.1) = _
  cases hf : L.find? (fun y => y.1 == x.1) with
  | none => exact absurd (List.find?_eq_none.mp hf x h) (by simp)
  | some y =>
    have h1 := List.find?_some hf
    have h2 := List.mem_of_find?_eq_some hf
    have h3 : y.1 = x.1 := by simpa using h1
    obtain ⟨i, hi⟩ := List.getElem?_of_mem h
    obtain ⟨j, hj⟩ := List.getElem?_of_mem h2
    have g1 : (L.map (fun x => x.1))[i]? = some x.1 := by rw [List.getElem?_map, hi]; rfl
    have g2 : (L.map (fun x => x.1))[j]? = some x.1 := by rw [List.getElem?_map, hj, ← h3]; rfl
    obtain ⟨l1, q1⟩ := List.getElem?_eq_some_iff.mp g1
    obtain ⟨l2, q2⟩ := List.getElem?_eq_some_iff.mp g2
    have h5 := List.pairwise_iff_getElem.mp hn
    have e : i = j := by
      rcases Nat.lt_trichotomy i j with q | q | q
      · exact absurd (q1.trans q2.symm) (h5 i j l1 l2 q)
      · exact q
      · exact absurd (q2.trans q1.symm) (h5 j i l2 l1 q)
    subst e
    rw [Option.some.inj (hi.symm.trans hj)]
theorem va_D_nd {A : Nat → Prop} {ws : va_W} (h : va_D A ws) : (ws.map (fun x => x.1)).Nodup := by
  refine List.pairwise_iff_getElem.mpr (fun i j hi hj hij e => ?_)
  rw [List.getElem_map, List.getElem_map] at e
  rw [List.length_map] at hi hj
  have := h.1 i j _ _ (List.getElem?_eq_getElem hi) (List.getElem?_eq_getElem hj) e
  omega
theorem va_D_of {A : Nat → Prop} {ws : va_W} (hn : (ws.map (fun x => x.1)).Nodup) (hA : ∀ x ∈ ws, A x.1) : va_D A ws := by
  refine ⟨fun i j p q hi hj e => ?_, fun k q hk => hA q (List.mem_of_getElem? hk)⟩
  obtain ⟨p1, p2⟩ := p
  obtain ⟨q1, q2⟩ := q
  have e : p1 = q1 := e
  subst e
  exact nodup_at hn hi hj
/-- what lies in a cell is as good as something else -/
noncomputable def EQV (e e' : va_E) : Prop := ∀ (D : va_G) (a : Nat) (H : Heap), va_at D vwCl (a, e) H → va_at D vwCl (a, e') H
theorem EQV_rf {e : va_E} : EQV e e := fun _ _ _ h => h
theorem EQV_of {e e' : va_E} (h : e = e') : EQV e e' := h ▸ EQV_rf
theorem EQV_refs {cA : ClassId} {n : Nat} {f g : Nat → Option Nat} (h : ∀ k, k < n → f k = g k) : EQV (.inl (cA, n, .inr (.inr (.inr (.inr f))))) (.inl (cA, n, .inr (.inr (.inr (.inr g))))) := fun D a H q => by
  show H[a]? = some (arrV cA n (fun j => va_rf (g j)))
  have e : arrV cA n (fun j => va_rf (g j)) = arrV cA n (fun j => va_rf (f j)) := by
    unfold arrV
    congr 2
    funext j
    show va_rf (g j.val) = va_rf (f j.val)
    rw [h j.val j.isLt]
  rw [e]
  exact q
theorem kd_cls (id : Nat) : id ∈ fixL ∨ (kd id = (12, 0) ∧ 1000 ≤ id) ∨ ((kd id).1 = 0 ∧ 1000 ≤ id) ∨ (∃ ci, ci ∈ mcs ∧ kd id = (10 + ci, 0)) ∨ kd id = (99, 0) := by
  by_cases h1 : id < 175
  · have h : ∀ i, i < 175 → i ∈ fixL ∨ kd i = (99, 0) := by decide +kernel
    rcases h id h1 with q | q
    · exact Or.inl q
    · exact Or.inr (Or.inr (Or.inr (Or.inr q)))
  · by_cases h2 : id < 1000
    · exact Or.inr (Or.inr (Or.inr (Or.inr (by simp [kd, h1, h2]))))
    · by_cases h3 : id < 2000
      · have e : kd id = fkd ((id - 1000) % 5) := by simp [kd, h1, h2, h3]
        rw [e]
        unfold fkd
        split
        · exact Or.inr (Or.inl ⟨rfl, by omega⟩)
        · split
          · exact Or.inr (Or.inr (Or.inl ⟨rfl, by omega⟩))
          · exact Or.inr (Or.inr (Or.inl ⟨rfl, by omega⟩))
      · have e : kd id = if mcs.contains (id % 16) then (10 + id % 16, 0) else (99, 0) := by simp only [kd, h1, h2, h3, if_false]
        by_cases h4 : mcs.contains (id % 16) = true
        · exact Or.inr (Or.inr (Or.inr (Or.inl ⟨id % 16, List.contains_iff_mem.mp h4, by rw [e, if_pos h4]⟩)))
        · exact Or.inr (Or.inr (Or.inr (Or.inr (by rw [e, if_neg h4]))))
theorem fix_o : ∀ id ∈ fixL, ∀ c ∈ tplT.getD ((kd id).1 - 10) [], 2 ≤ c → 10 ≤ (kd id).1 → id + (c - 2) ∈ fixL := by decide +kernel
theorem fix_4 : ∀ id ∈ fixL, (kd id).1 = 4 → isC (id - 1) ∧ 1 ≤ id := by decide +kernel
theorem fix_5 : ∀ id ∈ fixL, (kd id).1 = 5 → id = 49 := by decide +kernel
theorem fix_6 : ∀ id ∈ fixL, (kd id).1 = 6 → id = 51 ∧ (kd id).2 = 6 := by decide +kernel
theorem fix_11 : ∀ id ∈ fixL, (kd id).1 = 11 → isC id := by decide +kernel
theorem fix_12 : ∀ id ∈ fixL, (kd id).1 = 12 → id = 69 ∧ kd id = (12, 0) := by decide +kernel
theorem tp_1 : ∀ ci, ci < 13 → ∀ k, k < 80 → tp ci k = some 1 → (ci = 1 ∧ k = 10) ∨ (ci = 2 ∧ k = 9) := by decide +kernel
theorem tp_m : ∀ ci ∈ mcs, ∀ c ∈ tplT.getD ci [], c = 0 := by decide +kernel
theorem tp_f : ∀ c ∈ tplT.getD 2 [], 2 ≤ c → c = 3 ∨ c = 4 ∨ c = 5 ∨ c = 6 := by decide +kernel
theorem tp_len : ∀ ci, ci < 13 → (tplT.getD ci []).length < 80 := by decide +kernel
theorem fix_o13 : ∀ id ∈ fixL, 10 ≤ (kd id).1 → (kd id).1 - 10 < 13 := by decide +kernel
theorem mcs13 : ∀ ci ∈ mcs, ci < 13 := by decide +kernel
/-- the references of a cell that lives go to cells that live -/
theorem ref_in {V : Vx} {σ : Sg} (x : XI V σ) {id k μ : Nat} (hi : id ∈ ids V) (h : ((kd id).1 = 4 ∨ (kd id).1 = 5) ∨ (10 ≤ (kd id).1 ∧ tp ((kd id).1 - 10) k = some 1)) (hr : gr σ id k = some μ) : μ ∈ ids V := by
  have c4 : ∀ c, isC c → gr σ (c + 1) k = some μ → μ ∈ ids V := fun c hc hr => by
    obtain ⟨ci, -, -, q⟩ := (x.2.1 c hc).2 k μ hr
    exact q
  have cF : kd id = (12, 0) → k = 9 → μ ∈ ids V := fun hk h9 => by
    subst h9
    rcases x.2.2.2 id hk with q | q
    · rw [q] at hr; cases hr
    · rw [q] at hr
      obtain rfl : 50 = μ := Option.some.inj hr
      exact fxl (by decide +kernel)
  rcases kd_cls id with q | q | q | ⟨ci, q1, q2⟩ | q
  · rcases h with (h | h) | ⟨h1, h2⟩
    · obtain ⟨q1, q2⟩ := fix_4 id q h
      exact c4 (id - 1) q1 (by rw [show id - 1 + 1 = id from by omega]; exact hr)
    · rw [fix_5 id q h] at hr
      exact (x.2.2.1 k μ hr).2
    · have hk : k < (tplT.getD ((kd id).1 - 10) []).length := by
        unfold tp at h2
        exact (List.getElem?_eq_some_iff.mp h2).1
      have h13 := fix_o13 id q h1
      have hl := tp_len _ h13
      rcases tp_1 _ h13 k (by omega) h2 with ⟨e1, e2⟩ | ⟨e1, e2⟩
      · have hc := fix_11 id q (by omega)
        subst e2
        obtain ⟨f, f1, -, f3⟩ := (x.2.1 id hc).1
        rw [f1] at hr
        obtain rfl : f = μ := Option.some.inj hr
        exact f3
      · exact cF (fix_12 id q (by omega)).2 e2
  · rcases h with (h | h) | ⟨h1, h2⟩
    · rw [q.1] at h; cases h
    · rw [q.1] at h; cases h
    · rw [q.1] at h2
      have hk : k < (tplT.getD 2 []).length := by
        unfold tp at h2
        exact (List.getElem?_eq_some_iff.mp h2).1
      have hl := tp_len 2 (by decide +kernel)
      rcases tp_1 2 (by decide +kernel) k (by omega) h2 with ⟨e1, e2⟩ | ⟨e1, e2⟩
      · cases e1
      · exact cF q.1 e2
  · rcases h with (h | h) | ⟨h1, h2⟩ <;> omega
  · have := mcs13 ci q1
    rcases h with (h | h) | ⟨h1, h2⟩
    · rw [q2] at h; have h : 10 + ci = 4 := h; omega
    · rw [q2] at h; have h : 10 + ci = 5 := h; omega
    · rw [q2] at h2
      have h2 : tp (10 + ci - 10) k = some 1 := h2
      rw [show 10 + ci - 10 = ci from by omega] at h2
      unfold tp at h2
      have := tp_m ci q1 1 (List.mem_of_getElem? h2)
      omega
  · rw [q] at h
    rcases h with (h | h) | ⟨h1, h2⟩
    · cases h
    · cases h
    · cases h2
/-- the cells that belong to one that lives, live -/
theorem off_in {V : Vx} (hw : wfd V) {id k d : Nat} (hi : id ∈ ids V) (h1 : 10 ≤ (kd id).1) (h : tp ((kd id).1 - 10) k = some (d + 2)) : id + d ∈ ids V := by
  have hm : (d + 2) ∈ tplT.getD ((kd id).1 - 10) [] := by unfold tp at h; exact List.mem_of_getElem? h
  rcases kd_cls id with q | q | q | ⟨ci, q1, q2⟩ | q
  · have := fix_o id q (d + 2) hm (by omega) h1
    rw [show d + 2 - 2 = d from by omega] at this
    exact fxl this
  · rw [q.1] at hm
    obtain ⟨w1, w2, w3, w4⟩ := hw id hi q.1
    rcases tp_f (d + 2) hm (by omega) with e | e | e | e
    · obtain rfl : d = 1 := by omega
      exact w1
    · obtain rfl : d = 2 := by omega
      exact w2
    · obtain rfl : d = 3 := by omega
      exact w3
    · obtain rfl : d = 4 := by omega
      exact w4
  · omega
  · rw [q2] at hm
    have hm : (d + 2) ∈ tplT.getD (10 + ci - 10) [] := hm
    rw [show 10 + ci - 10 = ci from by omega] at hm
    have := tp_m ci q1 _ hm
    omega
  · rw [q] at hm; cases hm
theorem ct_ext {V V' : Vx} {σ σ' : Sg} (x : XI V σ) (hw : wfd V) (hC : vC V' = vC V) (hva : ∀ id ∈ ids V, va V' id = va V id) {id : Nat} (hi : id ∈ ids V) (e1 : σ'.1 id = σ.1 id) (e2 : σ'.2.1 id = σ.2.1 id) (e3 : σ'.2.2 id = σ.2.2 id) : EQV (ct V σ id) (ct V' σ' id) := by
  have hr : ∀ k, ((kd id).1 = 4 ∨ (kd id).1 = 5) ∨ (10 ≤ (kd id).1 ∧ tp ((kd id).1 - 10) k = some 1) → (σ.2.2 id k).map (va V) = (σ.2.2 id k).map (va V') := fun k hk => by
    cases hq : σ.2.2 id k with
    | none => rfl
    | some μ => show some (va V μ) = some (va V' μ); rw [hva μ (ref_in x hi hk hq)]
  unfold ct
  rw [e1, e2, e3]
  unfold cont
  rw [hC]
  by_cases h3 : (kd id).1 < 3
  · rw [if_pos h3, if_pos h3]; exact EQV_rf
  · rw [if_neg h3, if_neg h3]
    by_cases h4 : (kd id).1 = 3
    · rw [if_pos h4, if_pos h4]; exact EQV_rf
    · rw [if_neg h4, if_neg h4]
      by_cases h5 : (kd id).1 < 6
      · rw [if_pos h5, if_pos h5]
        exact EQV_refs (fun k _ => hr k (Or.inl (by omega)))
      · rw [if_neg h5, if_neg h5]
        by_cases h6 : (kd id).1 = 6
        · rw [if_pos h6, if_pos h6]
          refine EQV_refs (fun k hk => ?_)
          have hid : id = 51 ∧ (kd id).2 = 6 := by
            rcases kd_cls id with q | q | q | ⟨ci, q1, q2⟩ | q
            · exact fix_6 id q h6
            · rw [q.1] at h6; cases h6
            · omega
            · rw [q2] at h6; have h6 : 10 + ci = 6 := h6; omega
            · rw [q] at h6; cases h6
          rw [hid.2] at hk
          rw [hid.1]
          have : 51 + 1 + 2 * k ∈ ids V := by
            have h : ∀ k, k < 6 → 51 + 1 + 2 * k ∈ fixL := by decide +kernel
            exact fxl (h k hk)
          rw [hva _ this]
        · rw [if_neg h6, if_neg h6]
          by_cases h10 : 10 ≤ (kd id).1
          · refine EQV_of (congrArg (fun z => Sum.inr ((kd id).1 - 10, z)) ?_)
            apply List.ext_getElem?
            intro k
            unfold flds
            rw [List.getElem?_mapIdx, List.getElem?_mapIdx]
            cases hb : (tplT.getD ((kd id).1 - 10) [])[k]? with
            | none => rfl
            | some c =>
              show some (fv (va V) id (σ.1 id) (σ.2.2 id) k c) = some (fv (va V') id (σ.1 id) (σ.2.2 id) k c)
              unfold fv
              by_cases c0 : c = 0
              · rw [if_pos c0, if_pos c0]
              · rw [if_neg c0, if_neg c0]
                by_cases c1 : c = 1
                · rw [if_pos c1, if_pos c1]
                  subst c1
                  rw [hr k (Or.inr ⟨h10, hb⟩)]
                · rw [if_neg c1, if_neg c1]
                  have hc : c = (c - 2) + 2 := by omega
                  have := off_in hw hi h10 (k := k) (d := c - 2) (by rw [← hc]; exact hb)
                  rw [hva _ this]
          · exfalso
            rcases kd_cls id with q | q | q | ⟨ci, q1, q2⟩ | q
            · have h : ∀ i ∈ fixL, (kd i).1 < 7 ∨ 10 ≤ (kd i).1 := by decide +kernel
              have := h id q
              omega
            · rw [q.1] at h10; exact h10 (by decide +kernel)
            · omega
            · rw [q2] at h10; exact h10 (by show 10 ≤ 10 + ci; omega)
            · rw [q] at h10; exact h10 (by decide +kernel)
/-- cells that come to those that were -/
theorem GH_ext {V : Vx} {σ σ' : Sg} {L : List (Nat × Nat)} {ω : RWd} {H : Heap} (hD : va_D (vA V) (cells V σ)) (hG : GRH V ω H)
    (k1 : ∀ a ∈ (rwd V σ).1, a ∈ ω.1 ∧ ω.2 a = (rwd V σ).2 a)
    (k2 : ∀ x ∈ L, x.1 ∉ ids V ∧ x.2 ∈ ω.1 ∧ x.2 ∉ (rwd V σ).1 ∧ EQV (ω.2 x.2) (ct (vext V L) σ' x.1))
    (k3 : (L.map (fun x => x.1)).Nodup) (k3' : (L.map (fun x => x.2)).Nodup)
    (k4 : ∀ id ∈ ids V, EQV (ct V σ id) (ct (vext V L) σ' id)) (k5 : wfd (vext V L)) : GH (vext V L) σ' H := by
  have hold : ∀ id ∈ ids V, va (vext V L) id = va V id := fun id hi => vext_old (fun z => by
    obtain ⟨x, hx, e⟩ := List.mem_map.mp z
    have e : x.1 = id := e
    exact (k2 x hx).1 (e ▸ hi))
  have hnew : ∀ x ∈ L, va (vext V L) x.1 = x.2 := fun x hx => vext_new k3 hx
  have hat : ∀ a, a ∈ ω.1 → va_at (vD V) vwCl (a, ω.2 a) H := fun a ha => by
    obtain ⟨i, hi⟩ := rc_at ha
    exact hG.1 i _ hi
  have hA : ∀ a, a ∈ ω.1 → vA V a := fun a ha => by
    obtain ⟨i, hi⟩ := rc_at ha
    exact hG.2.2 i _ hi
  have hmem : ∀ id ∈ ids V, va V id ∈ ω.1 ∧ ω.2 (va V id) = ct V σ id := fun id hi => by
    have h := k1 (va V id) (List.mem_map.mpr ⟨id, hi, rfl⟩)
    exact ⟨h.1, h.2.trans (rwd_ct hD hi)⟩
  have hall : ∀ id ∈ ids (vext V L), va_at (vD V) vwCl (va (vext V L) id, ct (vext V L) σ' id) H ∧ vA V (va (vext V L) id) := fun id hi => by
    rw [vext_ids] at hi
    rcases List.mem_append.mp hi with hi | hi
    · rw [hold id hi]
      have h := hmem id hi
      have q := hat _ h.1
      rw [h.2] at q
      exact ⟨k4 id hi _ _ _ q, hA _ h.1⟩
    · obtain ⟨x, hx, rfl⟩ := List.mem_map.mp hi
      rw [hnew x hx]
      have h := k2 x hx
      exact ⟨h.2.2.2 _ _ _ (hat _ h.2.1), hA _ h.2.1⟩
  refine ⟨fun k q hq => ?_, va_D_of ?_ (fun q hq => ?_), k5⟩
  · obtain ⟨id, hi, rfl⟩ := List.mem_map.mp (List.mem_of_getElem? hq)
    exact (hall id hi).1
  · have e : (cells (vext V L) σ').map (fun x => x.1) = (ids V).map (va V) ++ L.map (fun x => x.2) := by
      unfold cells
      rw [List.map_map, vext_ids, List.map_append, List.map_map]
      congr 1
      · exact List.map_congr_left (fun id hi => hold id hi)
      · exact List.map_congr_left (fun x hx => hnew x hx)
    rw [e, List.nodup_append]
    refine ⟨?_, k3', fun a ha b hb z => ?_⟩
    · have h := va_D_nd hD
      unfold cells at h
      rw [List.map_map] at h
      exact h
    · obtain ⟨x, hx, rfl⟩ := List.mem_map.mp hb
      exact (k2 x hx).2.2.1 (z ▸ ha)
  · obtain ⟨id, hi, rfl⟩ := List.mem_map.mp hq
    exact (hall id hi).2
/-! a world that goes on with more cells -/
noncomputable def mset (M : Mx) (V' : Vx) : Mx := match M with
  | (p, l, e, R, s, m, args, below, meth, c, V, nL, Q) => (p, l, e, R, s, m, args, below, meth, c, V', nL, Q)
theorem mset_V {M : Mx} {V' : Vx} : mV (mset M V') = V' := by obtain ⟨p, l, e, R, s, m, args, below, meth, c, V, nL, Q⟩ := M; rfl
theorem mset_N {M : Mx} {V' : Vx} : mN (mset M V') = mN M := by obtain ⟨p, l, e, R, s, m, args, below, meth, c, V, nL, Q⟩ := M; rfl
/-- a world that has what another has, and maybe more -/
noncomputable def VR (V V' : Vx) : Prop := (vD V' = vD V ∧ vC V' = vC V ∧ vA V' = vA V ∧ vX V' = vX V) ∧ (∀ id ∈ ids V, id ∈ ids V' ∧ va V' id = va V id) ∧ (∀ id, id < 1000 → va V' id = va V id)
theorem VR_rf {V : Vx} : VR V V := ⟨⟨rfl, rfl, rfl, rfl⟩, fun _ h => ⟨h, rfl⟩, fun _ _ => rfl⟩
theorem VR_ext {V : Vx} {L : List (Nat × Nat)} (h : ∀ x ∈ L, x.1 ∉ ids V ∧ 1000 ≤ x.1) : VR V (vext V L) := by
  have hn : ∀ id, (id ∈ ids V ∨ id < 1000) → id ∉ L.map (fun x => x.1) := fun id hi z => by
    obtain ⟨x, hx, e⟩ := List.mem_map.mp z
    have e : x.1 = id := e
    have := h x hx
    rw [e] at this
    rcases hi with hi | hi
    · exact this.1 hi
    · omega
  exact ⟨⟨rfl, rfl, rfl, rfl⟩, fun id hi => ⟨by rw [vext_ids]; exact List.mem_append_left _ hi, vext_old (hn id (Or.inl hi))⟩, fun id hi => vext_old (hn id (Or.inr hi))⟩
theorem vk_S_eq {N : Nat} {len : List Nat} {byt : List (List Int32)} {k v k' v' : Nat → Nat} {A : Nat → Prop} {U : State} {H : Heap} (h : vk_S N len byt k v A U H) (e1 : ∀ i, i < N → k' i = k i) (e2 : ∀ i, i < N → v' i = v i) : vk_S N len byt k' v' A U H :=
  ⟨fun i hi => by rw [e1 i hi, e2 i hi]; exact h.1 i hi, fun i j hi hj e => h.2 i j hi hj (by rw [← e1 i hi, ← e1 j hj]; exact e)⟩
theorem SX_vr {V V' : Vx} {U : State} (h : VR V V') (q : SX V U) : SX V' U := by
  obtain ⟨q1, q2, q3, q4⟩ := q
  unfold SX
  rw [h.1.2.2.1]
  refine ⟨vk_S_eq q1 (fun i hi => h.2.2 _ (by omega)) (fun i hi => h.2.2 _ (by omega)), fun i hi => ?_, q3, ?_⟩
  · rw [h.2.2 _ (by omega)]; exact q2 i hi
  · rw [h.2.2 _ (by decide +kernel)]; exact q4
theorem XC_vr {V V' : Vx} (h : VR V V') (q : XC V) : XC V' := by
  obtain ⟨q1, q2⟩ := q
  refine ⟨fun s t hA hs hk hx => ?_, fun U hx => ?_⟩
  · rw [h.1.2.2.2] at hx ⊢
    exact q1 s t hA hs (fun a ha hn => hk a ha (by rw [h.1.2.2.1]; exact hn)) hx
  · rw [h.1.2.2.2] at hx
    exact ⟨(q2 U hx).1, SX_vr h (q2 U hx).2⟩
theorem Cx_vr {M : Mx} {cc : ByteArray} {ret : Option FieldType} {own : String} {Ts : List Cond} {rm : Room} {mc ms : Nat} {Qc : Array Value → State → Outcome → State → Prop} {V' : Vx} (C : Cx M cc ret own Ts rm mc ms Qc) (h : VR (mV M) V') (hw : wfd V') : Cx (mset M V') cc ret own Ts rm mc ms Qc := by
  obtain ⟨p, l, e, R, s, m, args, below, meth, c, V, nL, Q⟩ := M
  obtain ⟨hx, hb, hml, hown, hts, hr, hlk, hK, hR, hQ, hw0, hX⟩ := C
  have e1 : vD V' = vD V := h.1.1
  have e2 : vC V' = vC V := h.1.2.1
  have e3 : vA V' = vA V := h.1.2.2.1
  have e4 : vX V' = vX V := h.1.2.2.2
  refine ⟨hx, hb, hml, hown, hts, hr, hlk, ?_, hR, ?_, hw, ?_, XC_vr h hX.2⟩
  · have e5 : tysV V' = tysV V := by unfold tysV; rw [e2]
    rw [e1, e5]; exact hK
  · rw [e3]; exact hQ
  · rw [e4]; exact hX.1
noncomputable def QIW (V : Vx) (Qk : Int32 → Vx → Sg → Prop) : Array Value → State → Outcome → State → Prop := va_Qi (fun r (u : Vx × Sg) => Qk r u.1 u.2) (fun u t => GG u.1 u.2 t) (vA V)
section RulesW
variable {M : Mx} {cc : ByteArray} {ret : Option FieldType} {own : String} {Ts : List Cond} {rm rc0 : Room} {mc ms : Nat} {Qc : Array Value → State → Outcome → State → Prop} {pc : Nat} {lv lv' : List (Nat × Value)} {st : List Value} {σ : Sg} {kn : Nat × Nat}
theorem P_iretW {V0 : Vx} {Qk : Int32 → Vx → Sg → Prop} (C : Cx M cc (some .int) own Ts rm mc ms (QIW V0 Qk)) (hA : vA (mV M) = vA V0) {x : Int32} (h1 : kn.1 ≤ mc) (h2 : kn.2 ≤ ms) (hd : decode cc pc = .ok (.ireturn, 1)) (h : Qk x (mV M) σ) : PS M pc lv [.int x] σ kn := by
  obtain ⟨p, l, e, R, s, m, args, below, meth, c, V, nL, Q⟩ := M
  intro ls H locs hl hG hS
  obtain ⟨hx, hb, hml, hown, hts, hr, hlk, hK, hR, hQ, hw, hX⟩ := C
  have hQ : Q = MQ below (QIW V0 Qk) args s mc ms (vA V) := hQ
  have hA : vA V = vA V0 := hA
  subst hQ
  refine W.widen h1 h2 ?_
  refine W.iret (v := x) hx hb hr (fun t ht hW => ⟨⟨x, (V, σ), rfl, h, GG_mk ht hG hK hX hS hW⟩, ?_⟩) hS.2.2 hd hlk
  rw [← hA]; exact hS.F ht
noncomputable def refs_in (V : Vx) (vs : List Value) : Prop := ∀ a, Value.ref a ∈ vs → a ∈ ids V
theorem map_vr {V V' : Vx} (h : VR V V') {vs : List Value} (hv : refs_in V vs) : vs.map (cv V') = vs.map (cv V) := by
  apply List.map_congr_left
  intro v hm
  cases v with
  | ref a => show Value.ref (va V' a) = Value.ref (va V a); rw [(h.2.1 a (hv a hm)).2]
  | _ => rfl
theorem lmap_vr {V V' : Vx} (h : VR V V') {lv : List (Nat × Value)} (hv : refs_in V (lv.map (fun q => q.2))) : lv.map (fun q => (q.1, cv V' q.2)) = lv.map (fun q => (q.1, cv V q.2)) := by
  apply List.map_congr_left
  intro q hm
  have e : cv V' q.2 = cv V q.2 := by
    cases hq : q.2 with
    | ref a =>
      show Value.ref (va V' a) = Value.ref (va V a)
      rw [(h.2.1 a (hv a (hq ▸ List.mem_map.mpr ⟨q, hm, rfl⟩))).2]
    | _ => rfl
  rw [e]
theorem bound_of (L : List Nat) : ∃ B, ∀ x ∈ L, x < B := by
  induction L with
  | nil => exact ⟨0, fun x h => absurd h List.not_mem_nil⟩
  | cons a L ih =>
    obtain ⟨B, hB⟩ := ih
    refine ⟨a + B + 1, fun x h => ?_⟩
    rcases List.mem_cons.mp h with h | h
    · omega
    · have := hB x h; omega
theorem fresh_m (V : Vx) {ci : Nat} (hc : isMc ci) : ∃ μ, μ ∉ ids V ∧ 2000 ≤ μ ∧ kd μ = (10 + ci, 0) := by
  obtain ⟨B, hB⟩ := bound_of (ids V)
  have := mc_ge hc
  have e : (2000 + 16 * B + ci) % 16 = ci := by omega
  refine ⟨2000 + 16 * B + ci, fun h => by have := hB _ h; omega, by omega, ?_⟩
  have h1 : ¬ (2000 + 16 * B + ci) < 175 := by omega
  have h2 : ¬ (2000 + 16 * B + ci) < 1000 := by omega
  have h3 : ¬ (2000 + 16 * B + ci) < 2000 := by omega
  unfold kd
  rw [if_neg h1, if_neg h2, if_neg h3, e, if_pos (List.contains_iff_mem.mpr (mcs_of hc))]
noncomputable def mvals (k n v : Int32) : Nat → Int32 := fun j => if j = 0 then k else if j = 1 then n else v
theorem tp_mc : ∀ ci ∈ mcs, tplT.getD ci [] = [0, 0, 0] := by decide +kernel
theorem flds_m {ad : Nat → Nat} {μ ci : Nat} {k n v : Int32} {r : Nat → Option Nat} (hc : ci ∈ mcs) : flds ad μ (mvals k n v) r ci = [.int k, .int n, .int v] := by
  unfold flds
  rw [tp_mc ci hc]
  rfl
theorem sia_1 {σ : Sg} {a b : Nat} {g : Nat → Int32} (h : b ≠ a) : (sia σ a g).1 b = σ.1 b := va_up_ne _ _ h
theorem P_made {k9 n9 v9 : Int32} {idx : Nat} (C : Cx M cc ret own Ts rm mc ms Qc) (hU : UPV (mV M)) (x : XI (mV M) σ) (k : KF own Ts rm idx yX11_made wsX11_made (rmr 4 1 3) 3) (hst : (st.map fun v => v.category).sum ≤ 8) (hd : decode cc pc = .ok (.invokestatic idx, 3)) (hf : kn.1 + 1 ≤ rm.cells ∧ kn.2 + 3 ≤ rm.slots) (hlv : refs_in (mV M) (lv.map (fun q => q.2))) (hsv : refs_in (mV M) st)
    (h : ∀ q μ, μ ∉ ids (mV M) → 2000 ≤ μ → kd μ = (10 + kci k9, 0) → wfd (vext (mV M) [(μ, q)]) → PS (mset M (vext (mV M) [(μ, q)])) (pc + 3) lv (.ref μ :: st) (sia σ μ (mvals k9 n9 v9)) (kn.1 + 1, kn.2 + 3)) : PS M pc lv (.int v9 :: .int n9 :: .int k9 :: st) σ kn := by
  obtain ⟨p, l, e, R, s, m, args, below, meth, c, V, nL, Q⟩ := M
  intro ls H locs hl hG hS
  obtain ⟨hx, hb, hml, hown, hts, hr, hlk, hK, rfl, rfl, hw, hX⟩ := C
  obtain ⟨bytes, maxL, rt, ws', k1, k2, k3, k4⟩ := k
  have hrc : rc (rwd V σ) = cells V σ := rwd_rc hG.2.1
  have hGR : GRH V (rwd V σ) H := by unfold GRH; rw [hrc]; exact ⟨hG.1, hG.2.1⟩
  have es : (Value.int v9 :: .int n9 :: .int k9 :: st).map (cv V) = [Value.int k9, .int n9, .int v9].reverse ++ st.map (cv V) := rfl
  rw [es]
  refine va_callr (va_runS (As := [Value.int k9, .int n9, .int v9]) (rest := st.map (cv V)) ⟨hx, hb, hml, hown, hts⟩ (k_X11_made (l := l) (V := V) (ω0 := rwd V σ) (k := k9) (n := n9) (v := v9) hU) (va_cwS 3 hts k1 k2 rfl rfl k3 k4) ⟨GRRblind, fun U hU hW => ⟨rfl, GRR_mk hU hGR hK hw hX hS hW⟩⟩ rfl rfl hl.1 rfl (cat_sum hst) hd hf) hS (fun _ _ h => h) (fun _ h => h) (fun u ra t H1 locs1 ht hvm hq hB hz hk hS1 => ?_)
  subst ht
  obtain ⟨q, ω⟩ := u
  obtain ⟨g1, g2, g3, g4⟩ := hq
  obtain ⟨rfl, hB⟩ := hB
  have hci := kci_mc k9
  obtain ⟨μ, hμ1, hμ2, hμ3⟩ := fresh_m V hci
  have hvr : VR V (vext V [(μ, ra)]) := VR_ext (fun y hy => by
    obtain rfl : y = (μ, ra) := by simpa using hy
    exact ⟨hμ1, by show 1000 ≤ μ; omega⟩)
  have hwf : wfd (vext V [(μ, ra)]) := fun f hf hk => by
    rw [vext_ids] at hf
    rcases List.mem_append.mp hf with hf | hf
    · obtain ⟨w1, w2, w3, w4⟩ := hw f hf hk
      exact ⟨(hvr.2.1 _ w1).1, (hvr.2.1 _ w2).1, (hvr.2.1 _ w3).1, (hvr.2.1 _ w4).1⟩
    · obtain rfl : f = μ := by simpa using hf
      rw [hμ3] at hk
      have := mc_ge hci
      have hk : 10 + kci k9 = 12 := congrArg Prod.fst hk
      omega
  have hG2 : GH (vext V [(μ, ra)]) (sia σ μ (mvals k9 n9 v9)) t.heap := by
    refine GH_ext hG.2.1 hB.1 g3 (fun y hy => ?_) (by simp) (by simp) (fun id hi => ?_) hwf
    · obtain rfl : y = (μ, ra) := by simpa using hy
      refine ⟨hμ1, g2, g1, ?_⟩
      show EQV (ω.2 ra) (ct (vext V [(μ, ra)]) (sia σ μ (mvals k9 n9 v9)) μ)
      rw [g4, ct_o hμ3, show (sia σ μ (mvals k9 n9 v9)).1 μ = mvals k9 n9 v9 from va_up_self _ _ _, flds_m (mcs_of hci)]
      exact EQV_rf
    · have hne : id ≠ μ := fun z => hμ1 (z ▸ hi)
      exact ct_ext (V := V) (V' := vext V [(μ, ra)]) (σ := σ) (σ' := sia σ μ (mvals k9 n9 v9)) x hw rfl (fun j hj => (hvr.2.1 j hj).2) hi (sia_1 hne) rfl rfl
  have k5 := h ra μ hμ1 hμ2 hμ3 hwf ls t.heap locs1 (by
    show lv_has ls nL (lv.map (fun q => (q.1, cv (vext V [(μ, ra)]) q.2)))
    rw [lmap_vr hvr hlv]; exact hl) hG2 hS1
  have e2 : (Value.ref μ :: st).map (cv (vext V [(μ, ra)])) = Value.ref ra :: st.map (cv V) := by
    rw [List.map_cons, map_vr hvr hsv]
    show Value.ref (va (vext V [(μ, ra)]) μ) :: _ = _
    rw [show va (vext V [(μ, ra)]) μ = ra from vext_new (x := (μ, ra)) (by simp) (by simp)]
  have k5 : W p l e R s m args below meth c t.heap locs1 (kn.1 + 1) (kn.2 + 3) _ (F0 m (pc + 3) ls ((Value.ref μ :: st).map (cv (vext V [(μ, ra)])))) := k5
  rw [e2] at k5
  exact k5
end RulesW
theorem isMw_vr {V V' : Vx} (h : VR V V') {μ : Nat} (q : isMw V μ) : isMw V' μ := by
  obtain ⟨ci, q1, q2, q3⟩ := q
  exact ⟨ci, q1, q2, (h.2.1 μ q3).1⟩
theorem XI_vr {V V' : Vx} {σ : Sg} (h : VR V V') (x : XI V σ) : XI V' σ := by
  obtain ⟨x1, x2, x3, x4⟩ := x
  refine ⟨x1, fun c hc => ?_, fun k f hf => ⟨(x3 k f hf).1, (h.2.1 f (x3 k f hf).2).1⟩, x4⟩
  obtain ⟨⟨f, f1, f2, f3⟩, g⟩ := x2 c hc
  exact ⟨⟨f, f1, f2, (h.2.1 f f3).1⟩, fun k μ hμ => isMw_vr h (g k μ hμ)⟩
theorem XI_m {V : Vx} {σ : Sg} {μ : Nat} {k n v : Int32} (x : XI V σ) (hμ : 2000 ≤ μ) (k0 : 0 ≤ k.toInt) (k6 : k.toInt ≤ 6) (n0 : 0 ≤ n.toInt) (n5 : n.toInt ≤ 5) (v0 : 0 ≤ v.toInt) (v9 : v.toInt ≤ 9) : XI V (sia σ μ (mvals k n v)) := by
  refine XIs_sia x (fun j lo hi hl => ?_)
  have e : lim μ j = if j = 0 then some (0, 6) else if j = 1 then some (0, 5) else if j = 2 then some (0, 9) else none := by
    have h1 : ¬ μ < 69 := by omega
    have h2 : fo μ = none := by
      unfold fo
      rw [if_neg (by omega), if_neg (by omega), if_neg (by omega), if_neg (by omega)]
    unfold lim
    rw [if_neg h1, h2]
    show (if 2000 ≤ μ then _ else _) = _
    rw [if_pos hμ]
  rw [e] at hl
  unfold mvals
  by_cases e0 : j = 0
  · rw [if_pos e0] at hl ⊢; cases hl; exact ⟨k0, k6⟩
  · rw [if_neg e0] at hl ⊢
    by_cases e1 : j = 1
    · rw [if_pos e1] at hl ⊢; cases hl; exact ⟨n0, n5⟩
    · rw [if_neg e1] at hl ⊢
      by_cases e2 : j = 2
      · rw [if_pos e2] at hl; cases hl; exact ⟨v0, v9⟩
      · rw [if_neg e2] at hl; cases hl
theorem fa_X11_mower_12 : FA RX11 wsX11_mower 12 11 0 "NineMowers" := by
  show _ ∧ _ ∧ _ ∧ _
  exact ⟨by decide +kernel, fun _ h => List.mem_cons_of_mem _ (List.mem_append_left _ (List.mem_append_left _ (List.mem_append_left _ (List.mem_append_left _ (List.mem_append_left _ (List.mem_append_left _ (List.mem_append_left _ (List.mem_append_left _ (List.mem_append_right _ h))))))))), List.mem_of_getElem? (i := 1) rfl, Or.inl rfl⟩
theorem fa_X11_mower_76 : FA RX11 wsX11_mower 76 1 1 "NineMowers$Course" := by
  show _ ∧ _ ∧ _ ∧ _
  exact ⟨by decide +kernel, fun _ h => List.mem_cons_of_mem _ (List.mem_append_left _ (List.mem_append_left _ (List.mem_append_left _ (List.mem_append_left _ (List.mem_append_left _ (List.mem_append_left _ (List.mem_append_left _ (List.mem_append_right _ h)))))))), List.mem_of_getElem? (i := 2) rfl, Or.inl rfl⟩
theorem kf_X11_mower : KF RX11 wsX11_mower (rmr 6 1 3) 79 yX11_made wsX11_made (rmr 4 1 3) 3 := ⟨_, _, _, _, gX11_mower_X11_made, rfl, by decide +kernel, by decide +kernel⟩
theorem kv_X11_mower : KV RX11 wsX11_mower (rmr 6 1 3) 83 RX1 yX1_comes wsX1_comes (rmz 0) 1 := ⟨_, _, _, _, gX11_mower_X1_comes, rfl, by decide +kernel, by decide +kernel⟩
theorem NN_sia {σ : Sg} {c a : Nat} {g : Nat → Int32} (n : NN σ c) (h : a ≠ c) (h2 : a ≠ c + 2) : NN (sia σ a g) c := by
  have e : ∀ k, gi (sia σ a g) c k = gi σ c k := fun k => by rw [gi_sia, if_neg (fun z => h z.symm)]
  have e2 : ∀ k, gi (sia σ a g) (c + 2) k = gi σ (c + 2) k := fun k => by rw [gi_sia, if_neg (fun z => h2 z.symm)]
  unfold NN
  rw [e, e]
  exact ⟨fun p hp => by rw [e2]; exact n.1 p hp, n.2⟩
noncomputable def K_X11_mower (l : Launch) (V : Vx) (a1 a2 : Int32) (σ : Sg) (Qk : Int32 → Vx → Sg → Prop) : Prop := Ka l V yX11_mower wsX11_mower (rmr 6 1 3) 1 3 [.ref 0, .int a1, .int a2] σ (QIW V Qk)
/-! a field comes to be -/
noncomputable abbrev KaN (l : Launch) (V : Vx) (y : MethodName) (ws : List Cond) (rm : Room) (mc ms : Nat) (as : List Value) (σ : Sg) (Qc : Array Value → State → Outcome → State → Prop) : Prop := Met l y ws rm (va_Pc (as.map (cv V)) (fun U => GG V σ U ∧ NWU U)) Qc mc ms (vA V)
theorem KaN_of {l : Launch} {V : Vx} {y : MethodName} {ws ws' : List Cond} {rm : Room} {mc ms : Nat} {cc : ByteArray} {maxL : Nat} {ret : Option FieldType} {own : String} {as : List Value} {σ : Sg} {Qc : Array Value → State → Outcome → State → Prop}
    (hy : plainName y.cls = true) (hw : ws = Cond.code y cc maxL ret :: ws') (ho : y.cls = own) (hlen : (lg_sl (as.map (cv V))).length ≤ maxL)
    (h : ∀ M : Mx, mL M = l → mV M = V → mN M = maxL → Cx M cc ret own ws rm mc ms Qc → mNW M → PS M 0 (lv_args 0 as) [] σ (0, 0)) : KaN l V y ws rm mc ms as σ Qc := by
  refine Met.ofW (cc := cc) (maxL := maxL) (ret := ret) hy hw ?_
  intro p e s m args below meth c s1 B hml hv
  obtain ⟨rfl, ⟨hG, hK, hX⟩, hNW⟩ := hv
  have hown : s.vm.findClass own = some m.cls := by rw [← ho]; exact findClass_of_methodNamed B.named
  have hl := lv_entry (as.map (cv V)) (n := maxL) hlen
  rw [lg_entry_eq]
  rw [lv_args_map] at hl
  exact h (p, l, e, rm, s, m, _, below, meth, c, V, maxL, _) rfl rfl rfl ⟨B.exec, B.bytes, hml, hown, atoms_spec (ws := ws) B.pre, B.returns, B.notSynchronized, hK, rfl, rfl, hG.2.2, hX⟩ hNW _ _ _ hl hG va_S.rf
theorem kd_f {k : Nat} (hk : k < 200) : kd (1000 + 5 * k) = (12, 0) := by
  have h1 : ¬ (1000 + 5 * k) < 175 := by omega
  have h2 : ¬ (1000 + 5 * k) < 1000 := by omega
  have h3 : (1000 + 5 * k) < 2000 := by omega
  have h4 : (1000 + 5 * k - 1000) % 5 = 0 := by omega
  unfold kd
  rw [if_neg h1, if_neg h2, if_pos h3, h4]
  rfl
theorem kdF_3' {f : Nat} (h : kd f = (12, 0)) (hf : 1000 ≤ f) : kd (f + 3) = (0, 10) := by
  rcases kdF h with q | ⟨k, hk, q⟩
  · omega
  · subst q
    clear h
    have h1 : ¬ (1000 + 5 * k + 3) < 175 := by omega
    have h2 : ¬ (1000 + 5 * k + 3) < 1000 := by omega
    have h3 : (1000 + 5 * k + 3) < 2000 := by omega
    have h4 : (1000 + 5 * k + 3 - 1000) % 5 = 3 := by omega
    unfold kd
    rw [if_neg h1, if_neg h2, if_pos h3, h4]
    rfl
noncomputable def fvals : Nat → Int32 := fun j => if j = 0 then 2 else if j = 1 then 1 else if j = 2 then 60 else 0
noncomputable def z0 : Nat → Int32 := fun _ => 0
noncomputable def fnew (σ : Sg) (f : Nat) : Sg := sra (sia (sia (sia (sia (sia σ f fvals) (f + 1) z0) (f + 2) z0) (f + 3) z0) (f + 4) z0) f (fun _ => none)
theorem gi_sra {σ : Sg} {a b j : Nat} {g : Nat → Option Nat} : gi (sra σ a g) b j = gi σ b j := rfl
theorem gr_sra {σ : Sg} {a b j : Nat} {g : Nat → Option Nat} : gr (sra σ a g) b j = if b = a then g j else gr σ b j := by
  show va_up σ.2.2 a g b j = _
  by_cases e : b = a
  · subst e; rw [va_up_self, if_pos rfl]
  · rw [va_up_ne _ _ e, if_neg e]; rfl
theorem gr_sia {σ : Sg} {a b j : Nat} {g : Nat → Int32} : gr (sia σ a g) b j = gr σ b j := rfl
theorem fn_i {σ : Sg} {f b k : Nat} (h : ¬ (f ≤ b ∧ b ≤ f + 4)) : gi (fnew σ f) b k = gi σ b k := by
  unfold fnew
  rw [gi_sra, gi_sia, if_neg (by omega), gi_sia, if_neg (by omega), gi_sia, if_neg (by omega), gi_sia, if_neg (by omega), gi_sia, if_neg (by omega)]
theorem fn_r {σ : Sg} {f b k : Nat} : gr (fnew σ f) b k = if b = f then none else gr σ b k := by
  unfold fnew
  rw [gr_sra, gr_sia, gr_sia, gr_sia, gr_sia, gr_sia]
theorem fn_f {σ : Sg} {f k : Nat} : gi (fnew σ f) f k = fvals k := by
  unfold fnew
  rw [gi_sra, gi_sia, if_neg (by omega), gi_sia, if_neg (by omega), gi_sia, if_neg (by omega), gi_sia, if_neg (by omega), gi_sia, if_pos rfl]
theorem fn_z {σ : Sg} {f o k : Nat} (h1 : 1 ≤ o) (h4 : o ≤ 4) : gi (fnew σ f) (f + o) k = 0 := by
  unfold fnew
  rw [gi_sra]
  rcases (show o = 1 ∨ o = 2 ∨ o = 3 ∨ o = 4 by omega) with rfl | rfl | rfl | rfl
  · rw [gi_sia, if_neg (by omega), gi_sia, if_neg (by omega), gi_sia, if_neg (by omega), gi_sia, if_pos rfl]; rfl
  · rw [gi_sia, if_neg (by omega), gi_sia, if_neg (by omega), gi_sia, if_pos rfl]; rfl
  · rw [gi_sia, if_neg (by omega), gi_sia, if_pos rfl]; rfl
  · rw [gi_sia, if_pos rfl]; rfl
theorem XI_f {V : Vx} {σ : Sg} {f : Nat} (x : XI V σ) (hk : kd f = (12, 0)) (hf : 1000 ≤ f) : XI V (fnew σ f) := by
  obtain ⟨x1, x2, x3, x4⟩ := x
  refine ⟨fun id j lo hi hl => ?_, fun c hc => ?_, fun k g hg => ?_, fun g hg => ?_⟩
  · by_cases e : f ≤ id ∧ id ≤ f + 4
    · obtain ⟨o, ho, rfl⟩ : ∃ o, o ≤ 4 ∧ id = f + o := ⟨id - f, by omega, by omega⟩
      rcases (show o = 0 ∨ o = 1 ∨ o = 2 ∨ o = 3 ∨ o = 4 by omega) with rfl | rfl | rfl | rfl | rfl
      · rw [show gi (fnew σ f) (f + 0) j = fvals j from fn_f]
        by_cases e4 : j = 4
        · subst e4; rw [show lim (f + 0) 4 = _ from lim_F0_4 hk] at hl; cases hl; decide
        · by_cases e8 : j = 8
          · subst e8; rw [show lim (f + 0) 8 = _ from lim_F0_8 hk] at hl; cases hl; decide
          · by_cases e10 : j = 10
            · subst e10; rw [show lim (f + 0) 10 = _ from lim_F0_10 hk] at hl; cases hl; decide
            · by_cases e11 : j = 11
              · subst e11; rw [show lim (f + 0) 11 = _ from lim_F0_11 hk] at hl; cases hl; decide
              · rw [show lim (f + 0) j = _ from lim_F0_n hk j ⟨e4, e8, e10, e11⟩] at hl; cases hl
      · rw [fn_z (by decide +kernel) (by decide +kernel)]; rw [lim_F1 hk] at hl; cases hl; decide
      · rw [lim_F2 hk] at hl; cases hl
      · rw [lim_F3 hk] at hl; cases hl
      · rw [fn_z (by decide +kernel) (by decide +kernel)]; rw [lim_F4 hk] at hl; cases hl; decide
    · rw [fn_i e]; exact x1 id j lo hi hl
  · have hc1 : c < 1000 := by rcases hc with rfl | rfl | rfl <;> decide
    obtain ⟨⟨g, g1, g2, g3⟩, g4⟩ := x2 c hc
    refine ⟨⟨g, ?_, g2, g3⟩, fun k μ hμ => g4 k μ ?_⟩
    · rw [fn_r, if_neg (by omega)]; exact g1
    · rw [fn_r, if_neg (by rcases hc with rfl | rfl | rfl <;> omega)] at hμ; exact hμ
  · rw [fn_r, if_neg (by omega)] at hg; exact x3 k g hg
  · rw [fn_r]
    by_cases e : g = f
    · rw [if_pos e]; exact Or.inl rfl
    · rw [if_neg e]; exact x4 g hg
section RulesF
variable {M : Mx} {cc : ByteArray} {ret : Option FieldType} {own : String} {Ts : List Cond} {rm rc0 : Room} {mc ms : Nat} {Qc : Array Value → State → Outcome → State → Prop} {pc : Nat} {lv lv' : List (Nat × Value)} {st : List Value} {σ : Sg} {kn : Nat × Nat}
theorem sr_cells5 {V : Vx} {σ : Sg} {A : Nat → Prop} {id n q0 k : Nat} {v : Option Nat} (hD : va_D A (cells V σ)) (hk : kd id = (5, n)) (hi : id ∈ ids V) (hq : (cells V σ)[q0]? = some (va V id, ct V σ id)) : (cells V σ).set q0 (va V id, .inl (vC V 5, n, .inr (.inr (.inr (.inr (va_up (fun j => (σ.2.2 id j).map (va V)) k (v.map (va V)))))))) = cells V (sr σ id k v) := by
  have e := cell_set (σ' := sr σ id k v) hD hq hi (fun j hj => ct_sra hj)
  rw [ct_r hk (by decide +kernel) (by decide +kernel)] at e
  rw [← e, map_up]
  show _ = List.set _ _ (_, Sum.inl (_, _, Sum.inr (Sum.inr (Sum.inr (Sum.inr (fun j => (va_up σ.2.2 id _ id j).map (va V)))))))
  rw [va_up_self]
theorem P_astF (C : Cx M cc ret own Ts rm mc ms Qc) {id n μ : Nat} {i : Int32} (hk : kd id = (5, n)) (hi : id ∈ ids (mV M)) (hin : vp_in i n) (hkm : kd μ = (12, 0)) (him : μ ∈ ids (mV M)) (hd : decode cc pc = .ok (.aastore, 1)) (h : PS M (pc + 1) lv st (sr σ id i.toNatClampNeg (some μ)) kn) : PS M pc lv (.ref μ :: .int i :: .ref id :: st) σ kn := by
  obtain ⟨p, l, e, R, s, m, args, below, meth, c, V, nL, Q⟩ := M
  intro ls H locs hl hG hS
  obtain ⟨hx, hb, hml, hown, hts, hr, hlk, hK, rfl, rfl, hw, hX⟩ := C
  obtain ⟨q0, hq⟩ := cell_at (V := V) (σ := σ) hi
  have hq0 := hq
  rw [ct_r hk (by decide +kernel) (by decide +kernel)] at hq
  obtain ⟨qm, hqm⟩ := cell_at (V := V) (σ := σ) him
  rw [ct_o (ci := 2) hkm] at hqm
  refine va_astq (D := vD V) hx hb hK hG.1 hG.2.1 hS q0 5 qm 2 hq (r := (RX2, TX2, 12)) rfl hqm rfl hin hd (fun H1 locs1 hP hD hS => ?_)
  have e := sr_cells5 (k := i.toNatClampNeg) (v := some μ) hG.2.1 hk hi hq0
  rw [show some (va V μ) = (some μ).map (va V) from rfl, e] at hP hD
  exact h ls H1 locs1 hl ⟨hP, hD, hG.2.2⟩ hS
noncomputable def fL (f q0 q1 q2 q3 q4 : Nat) : List (Nat × Nat) := [(f, q0), (f + 1, q1), (f + 2, q2), (f + 3, q3), (f + 4, q4)]
theorem P_newF {idx i2 k9 : Nat} (C : Cx M cc ret own Ts rm mc ms Qc) (hU : UPV (mV M)) (hNW : mNW M) (x : XI (mV M) σ) (hk9 : k9 < 200) (hfr : ∀ r, r < 5 → 1000 + 5 * k9 + r ∉ ids (mV M)) (hin2 : ∀ w ∈ u_ws RX2 TX2 12, w ∈ Ts) (h1 : Cond.classLink own idx RX2 ∈ Ts) (h2 : Cond.instantiable RX2 12 ∈ Ts) (h3 : Cond.initialized RX2 ∈ Ts) (k : KIN Ts rm yX2_init wsX2_init (rmr 1 4 130) 0) (ho : own = RX11) (hi2 : i2 = 70) (hst : (st.map fun v => v.category).sum ≤ 7)
    (hd1 : decode cc pc = .ok (.new idx, 3)) (hd2 : decode cc (pc + 3) = .ok (.dup, 1)) (hd3 : decode cc (pc + 4) = .ok (.invokespecial i2, 3)) (hf : kn.1 + 5 ≤ rm.cells ∧ kn.2 + 142 ≤ rm.slots) (hlv : refs_in (mV M) (lv.map (fun q => q.2))) (hsv : refs_in (mV M) st)
    (h : ∀ q0 q1 q2 q3 q4, VR (mV M) (vext (mV M) (fL (1000 + 5 * k9) q0 q1 q2 q3 q4)) → wfd (vext (mV M) (fL (1000 + 5 * k9) q0 q1 q2 q3 q4)) → PS (mset M (vext (mV M) (fL (1000 + 5 * k9) q0 q1 q2 q3 q4))) (pc + 7) lv (.ref (1000 + 5 * k9) :: st) (fnew σ (1000 + 5 * k9)) (kn.1 + 5, kn.2 + 142)) : PS M pc lv st σ kn := by
  subst ho hi2
  obtain ⟨p, l, e, R, s, m, args, below, meth, c, V, nL, Q⟩ := M
  intro ls H locs hl hG hS
  have hrc : rc (rwd V σ) = cells V σ := rwd_rc hG.2.1
  have hGR : GRH V (rwd V σ) H := by unfold GRH; rw [hrc]; exact ⟨hG.1, hG.2.1⟩
  have hw : wfd V := hG.2.2
  have hD0 := hG.2.1
  obtain ⟨f, ef⟩ : ∃ f, f = 1000 + 5 * k9 := ⟨_, rfl⟩
  have hkf : kd f = (12, 0) := by rw [ef]; exact kd_f hk9
  rw [← ef] at h hfr
  have K : PR (p, l, e, R, s, m, args, below, meth, c, V, nL, Q) pc (lv.map (fun q => (q.1, cv V q.2))) (st.map (cv V)) (rwd V σ) kn := by
    have e9 : ((st.map (cv V)).map fun v => v.category).sum ≤ 7 := by
      rw [List.map_map]
      have : (st.map ((fun v => v.category) ∘ cv V)) = st.map (fun v => v.category) := List.map_congr_left (fun v _ => cv_cat V v)
      rw [this]; exact hst
    refine Z_new (fs := [.int 0, .int 0, .int 0, .null, .int 0, .null, .null, .null, .int 0, .null, .int 0, .int 0]) C hU (ci := 2) rfl hin2 tyX2_ok h1 h2 h3 dfX2 (by omega) (by omega) hd1 (fun q hq => ?_)
    refine Z_dup C hd2 rfl ?_
    refine Z_ciN (rc0 := rmr 1 4 130) (Qk := FB V (rnew (rwd V σ) q (.inr (2, [.int 0, .int 0, .int 0, .null, .int 0, .null, .null, .null, .int 0, .null, .int 0, .int 0]))) q) (b := q) (As := []) C k (fun h9 => h9.2.1) hNW rfl (by show (Value.category (.ref q) + ((st.map (cv V)).map fun v => v.category).sum) ≤ 8; have : Value.category (.ref q) = 1 := rfl; omega) hd3 (by show kn.1 + 1 + 4 ≤ _ ∧ kn.2 + 12 + 130 ≤ _; omega) (k_X2_init hU (List.mem_append_right _ (List.mem_singleton.mpr rfl)) (va_up_self _ _ _)) (fun ω1 hB => ?_)
    obtain ⟨q1, q2, q3, q4, b1, c1⟩ := hB
    intro ls H locs hl hG' hS'
    obtain ⟨b1a, b1b, b1c, b1d⟩ := b1
    have hqn : q ∉ (rwd V σ).1 := hq
    have hm : ∀ y ∈ fL f q q1 q2 q3 q4, y.1 ∉ ids V ∧ 1000 ≤ y.1 := fun y hy => by
      have hy : y = (f, q) ∨ y = (f + 1, q1) ∨ y = (f + 2, q2) ∨ y = (f + 3, q3) ∨ y = (f + 4, q4) := by simpa [fL] using hy
      rcases hy with rfl | rfl | rfl | rfl | rfl
      · exact ⟨hfr 0 (by decide +kernel), by show 1000 ≤ f; omega⟩
      · exact ⟨hfr 1 (by decide +kernel), by show 1000 ≤ f + 1; omega⟩
      · exact ⟨hfr 2 (by decide +kernel), by show 1000 ≤ f + 2; omega⟩
      · exact ⟨hfr 3 (by decide +kernel), by show 1000 ≤ f + 3; omega⟩
      · exact ⟨hfr 4 (by decide +kernel), by show 1000 ≤ f + 4; omega⟩
    have hvr : VR V (vext V (fL f q q1 q2 q3 q4)) := VR_ext hm
    have hnd : ((fL f q q1 q2 q3 q4).map (fun x => x.1)).Nodup := by
      simp [fL, List.nodup_cons]
    have hq' : ∀ y ∈ [q1, q2, q3, q4], y ∈ ω1.1 ∧ y ∉ (rwd V σ).1 ∧ y ≠ q := fun y hy => by
      have hy : y = q1 ∨ y = q2 ∨ y = q3 ∨ y = q4 := by simpa using hy
      have g : ∀ z ∈ [(q1, ints V 100), (q2, ints V 10), (q3, ints V 10), (q4, ints V 10)], z.1 ∈ ω1.1 ∧ z.1 ∉ (rnew (rwd V σ) q (.inr (2, [.int 0, .int 0, .int 0, .null, .int 0, .null, .null, .null, .int 0, .null, .int 0, .int 0]))).1 := fun z hz => ⟨(b1d z hz).1, (b1d z hz).2.1⟩
      have g2 : y ∈ ω1.1 ∧ y ∉ (rnew (rwd V σ) q (.inr (2, [.int 0, .int 0, .int 0, .null, .int 0, .null, .null, .null, .int 0, .null, .int 0, .int 0]))).1 := by
        rcases hy with rfl | rfl | rfl | rfl
        · exact g (y, ints V 100) (by simp)
        · exact g (y, ints V 10) (by simp)
        · exact g (y, ints V 10) (by simp)
        · exact g (y, ints V 10) (by simp)
      refine ⟨g2.1, fun z => g2.2 (List.mem_append_left _ z), fun z => g2.2 (List.mem_append_right _ (by rw [z]; simp))⟩
    have hnd2 : ((fL f q q1 q2 q3 q4).map (fun x => x.2)).Nodup := by
      show [q, q1, q2, q3, q4].Nodup
      rw [List.nodup_cons]
      refine ⟨fun z => (hq' q z).2.2 rfl, ?_⟩
      exact b1c
    have hva : ∀ y ∈ fL f q q1 q2 q3 q4, va (vext V (fL f q q1 q2 q3 q4)) y.1 = y.2 := fun y hy => vext_new hnd hy
    have v1 : va (vext V (fL f q q1 q2 q3 q4)) (f + 1) = q1 := hva (f + 1, q1) (by simp [fL])
    have v2 : va (vext V (fL f q q1 q2 q3 q4)) (f + 2) = q2 := hva (f + 2, q2) (by simp [fL])
    have v3 : va (vext V (fL f q q1 q2 q3 q4)) (f + 3) = q3 := hva (f + 3, q3) (by simp [fL])
    have v4 : va (vext V (fL f q q1 q2 q3 q4)) (f + 4) = q4 := hva (f + 4, q4) (by simp [fL])
    have hwf : wfd (vext V (fL f q q1 q2 q3 q4)) := fun g hg hk => by
      have hL : ∀ o, o < 5 → f + o ∈ ids (vext V (fL f q q1 q2 q3 q4)) := fun o ho => by
        rw [vext_ids]
        refine List.mem_append_right _ ?_
        rcases (show o = 0 ∨ o = 1 ∨ o = 2 ∨ o = 3 ∨ o = 4 by omega) with rfl | rfl | rfl | rfl | rfl <;> simp [fL]
      rw [vext_ids] at hg
      rcases List.mem_append.mp hg with hg | hg
      · obtain ⟨w1, w2, w3, w4⟩ := hw g hg hk
        exact ⟨(hvr.2.1 _ w1).1, (hvr.2.1 _ w2).1, (hvr.2.1 _ w3).1, (hvr.2.1 _ w4).1⟩
      · have hg : g = f ∨ g = f + 1 ∨ g = f + 2 ∨ g = f + 3 ∨ g = f + 4 := by simpa [fL] using hg
        have h5 := kdF_ge hk
        have h6 := kdF_ge hkf
        obtain rfl : g = f := by omega
        exact ⟨hL 1 (by decide +kernel), hL 2 (by decide +kernel), hL 3 (by decide +kernel), hL 4 (by decide +kernel)⟩
    have hz : ∀ (o n : Nat) (qo : Nat), 1 ≤ o → o ≤ 4 → kd (f + o) = (0, n) → (qo, ints V n) ∈ [(q1, ints V 100), (q2, ints V 10), (q3, ints V 10), (q4, ints V 10)] → EQV (ω1.2 qo) (ct (vext V (fL f q q1 q2 q3 q4)) (fnew σ f) (f + o)) := fun o n qo o1 o4 hk hm9 => by
      rw [show ω1.2 qo = ints V n from (b1d (qo, ints V n) hm9).2.2, ct_i hk (by decide +kernel)]
      have e0 : (fnew σ f).1 (f + o) = fun _ => 0 := funext fun j => fn_z o1 o4
      rw [e0]
      exact EQV_rf
    have hG2 : GH (vext V (fL f q q1 q2 q3 q4)) (fnew σ f) H := by
      refine GH_ext hD0 hG' (fun a ha => ?_) (fun y hy => ?_) hnd hnd2 (fun id hi => ?_) hwf
      · have hne : a ≠ q := fun z => hqn (z ▸ ha)
        have h2 := b1b a (List.mem_append_left _ ha)
        refine ⟨h2.1, (h2.2 hne).trans ?_⟩
        show va_up (rwd V σ).2 q _ a = _
        rw [va_up_ne _ _ hne]
      · have hy' : y = (f, q) ∨ y = (f + 1, q1) ∨ y = (f + 2, q2) ∨ y = (f + 3, q3) ∨ y = (f + 4, q4) := by simpa [fL] using hy
        rcases hy' with rfl | rfl | rfl | rfl | rfl
        · refine ⟨(hm _ hy).1, (b1b q b1a).1, hqn, ?_⟩
          show EQV (ω1.2 q) (ct (vext V (fL f q q1 q2 q3 q4)) (fnew σ f) f)
          rw [c1, ct_o (ci := 2) hkf]
          refine EQV_of (congrArg (fun z => Sum.inr (2, z)) ?_)
          show _ = [Value.int ((fnew σ f).1 f 0), .int ((fnew σ f).1 f 1), .int ((fnew σ f).1 f 2), .ref (va (vext V (fL f q q1 q2 q3 q4)) (f + 1)), .int ((fnew σ f).1 f 4), .ref (va (vext V (fL f q q1 q2 q3 q4)) (f + 2)), .ref (va (vext V (fL f q q1 q2 q3 q4)) (f + 3)), .ref (va (vext V (fL f q q1 q2 q3 q4)) (f + 4)), .int ((fnew σ f).1 f 8), va_rf (((fnew σ f).2.2 f 9).map (va (vext V (fL f q q1 q2 q3 q4)))), .int ((fnew σ f).1 f 10), .int ((fnew σ f).1 f 11)]
          have g : ∀ j, (fnew σ f).1 f j = fvals j := fun j => fn_f
          have g9 : (fnew σ f).2.2 f 9 = none := by
            have := fn_r (σ := σ) (f := f) (b := f) (k := 9)
            rw [if_pos rfl] at this
            exact this
          rw [g, g, g, g, g, g, g, g9, v1, v2, v3, v4]
          rfl
        · exact ⟨(hm _ hy).1, (hq' q1 (by simp)).1, (hq' q1 (by simp)).2.1, hz 1 100 q1 (by decide +kernel) (by decide +kernel) (kdF_1 hkf) (by simp)⟩
        · exact ⟨(hm _ hy).1, (hq' q2 (by simp)).1, (hq' q2 (by simp)).2.1, hz 2 10 q2 (by decide +kernel) (by decide +kernel) (kdF_2 hkf) (by simp)⟩
        · exact ⟨(hm _ hy).1, (hq' q3 (by simp)).1, (hq' q3 (by simp)).2.1, hz 3 10 q3 (by decide +kernel) (by decide +kernel) (kdF_3' hkf (by omega)) (by simp)⟩
        · exact ⟨(hm _ hy).1, (hq' q4 (by simp)).1, (hq' q4 (by simp)).2.1, hz 4 10 q4 (by decide +kernel) (by decide +kernel) (kdF_4 hkf) (by simp)⟩
      · have hne : ∀ o, o < 5 → id ≠ f + o := fun o ho z => hfr o ho (z ▸ hi)
        have hnn : ¬ (f ≤ id ∧ id ≤ f + 4) := fun z => by
          have := hne (id - f) (by omega)
          omega
        have e1 : (fnew σ f).1 id = σ.1 id := funext fun j => fn_i hnn
        have e3 : (fnew σ f).2.2 id = σ.2.2 id := funext fun j => by
          have := fn_r (σ := σ) (f := f) (b := id) (k := j)
          rw [if_neg (by omega)] at this
          exact this
        exact ct_ext (V := V) (V' := vext V (fL f q q1 q2 q3 q4)) (σ := σ) (σ' := fnew σ f) x hw rfl (fun j hj => (hvr.2.1 j hj).2) hi e1 rfl e3
    have k5 := h q q1 q2 q3 q4 hvr hwf ls H locs (by
      show lv_has ls nL (lv.map (fun z => (z.1, cv (vext V (fL f q q1 q2 q3 q4)) z.2)))
      rw [lmap_vr hvr hlv]; exact hl) hG2 hS'
    have e2 : (Value.ref f :: st).map (cv (vext V (fL f q q1 q2 q3 q4))) = Value.ref q :: st.map (cv V) := by
      rw [List.map_cons, map_vr hvr hsv]
      show Value.ref (va (vext V (fL f q q1 q2 q3 q4)) f) :: _ = _
      rw [show va (vext V (fL f q q1 q2 q3 q4)) f = q from hva (f, q) (by simp [fL])]
    have k5 : W p l e R s m args below meth c H locs (kn.1 + 5) (kn.2 + 142) Q (F0 m (pc + 7) ls ((Value.ref f :: st).map (cv (vext V (fL f q q1 q2 q3 q4))))) := k5
    rw [e2] at k5
    exact k5
  exact K ls H locs hl hGR hS
end RulesF

theorem fa_X11_field_34 : FA RX11 wsX11_field 34 11 5 "NineMowers" := by
  show _ ∧ _ ∧ _ ∧ _
  exact ⟨by decide +kernel, fun _ h => List.mem_cons_of_mem _ (List.mem_append_left _ (List.mem_append_left _ (List.mem_append_right _ h))), List.mem_of_getElem? (i := 1) rfl, Or.inl rfl⟩
theorem fa_X11_field_30 : FA RX11 wsX11_field 30 11 4 "NineMowers" := by
  show _ ∧ _ ∧ _ ∧ _
  exact ⟨by decide +kernel, fun _ h => List.mem_cons_of_mem _ (List.mem_append_left _ (List.mem_append_left _ (List.mem_append_right _ h))), List.mem_of_getElem? (i := 2) rfl, Or.inl rfl⟩
theorem fa_X11_field_38 : FA RX11 wsX11_field 38 11 6 "NineMowers" := by
  show _ ∧ _ ∧ _ ∧ _
  exact ⟨by decide +kernel, fun _ h => List.mem_cons_of_mem _ (List.mem_append_left _ (List.mem_append_left _ (List.mem_append_right _ h))), List.mem_of_getElem? (i := 6) rfl, Or.inl rfl⟩
theorem fa_X11_field_42 : FA RX11 wsX11_field 42 11 7 "NineMowers" := by
  show _ ∧ _ ∧ _ ∧ _
  exact ⟨by decide +kernel, fun _ h => List.mem_cons_of_mem _ (List.mem_append_left _ (List.mem_append_left _ (List.mem_append_right _ h))), List.mem_of_getElem? (i := 7) rfl, Or.inl rfl⟩
theorem fa_X11_field_12 : FA RX11 wsX11_field 12 11 0 "NineMowers" := by
  show _ ∧ _ ∧ _ ∧ _
  exact ⟨by decide +kernel, fun _ h => List.mem_cons_of_mem _ (List.mem_append_left _ (List.mem_append_left _ (List.mem_append_right _ h))), List.mem_of_getElem? (i := 8) rfl, Or.inl rfl⟩
theorem pa_X11_field_42 : PA RX11 wsX11_field 42 11 7 "NineMowers" .int := by
  show _ ∧ _ ∧ _ ∧ _ ∧ _ ∧ _ ∧ _ ∧ _
  exact ⟨by decide +kernel, fun _ h => List.mem_cons_of_mem _ (List.mem_append_left _ (List.mem_append_left _ (List.mem_append_right _ h))), List.mem_of_getElem? (i := 7) rfl, rfl, rfl, by decide +kernel, ⟨tyX11, tyX11_ok⟩, nmX11⟩
theorem pa_X11_field_34 : PA RX11 wsX11_field 34 11 5 "NineMowers" .int := by
  show _ ∧ _ ∧ _ ∧ _ ∧ _ ∧ _ ∧ _ ∧ _
  exact ⟨by decide +kernel, fun _ h => List.mem_cons_of_mem _ (List.mem_append_left _ (List.mem_append_left _ (List.mem_append_right _ h))), List.mem_of_getElem? (i := 1) rfl, rfl, rfl, by decide +kernel, ⟨tyX11, tyX11_ok⟩, nmX11⟩
theorem pa_X11_field_71 : PA RX11 wsX11_field 71 1 10 "NineMowers$Course" (.object "NineMowers$Field") := by
  show _ ∧ _ ∧ _ ∧ _ ∧ _ ∧ _ ∧ _ ∧ _
  exact ⟨by decide +kernel, fun _ h => List.mem_cons_of_mem _ (List.mem_append_right _ h), List.mem_of_getElem? (i := 9) rfl, rfl, rfl, by decide +kernel, ⟨tyX1, tyX1_ok⟩, nmX1⟩
theorem kin_X11_field : KIN wsX11_field (rmr 24 5 142) yX2_init wsX2_init (rmr 1 4 130) 0 := ⟨_, _, _, gX11_field_X2_init_n70, rfl, (List.mem_of_getElem? (i := 5) rfl), (List.mem_of_getElem? (i := 10) rfl), rfl, by decide +kernel, Nat.le_of_ble_eq_true rfl, Nat.le_of_ble_eq_true rfl⟩
theorem kv_X11_field_reads : KV RX11 wsX11_field (rmr 24 5 142) 157 RX2 yX2_reads wsX2_reads (rmz 22) 2 := ⟨_, _, _, _, gX11_field_X2_reads, rfl, by decide +kernel, by decide +kernel⟩
theorem kv_X11_field_fault : KV RX11 wsX11_field (rmr 24 5 142) 161 RX2 yX2_fault wsX2_fault (rmz 0) 0 := ⟨_, _, _, _, gX11_field_X2_fault, rfl, by decide +kernel, by decide +kernel⟩
theorem ws2_X11_field : ∀ w ∈ u_ws RX2 TX2 12, w ∈ wsX11_field := fun _ h => List.mem_cons_of_mem _ (List.mem_append_left _ (List.mem_append_right _ h))
theorem cl_X11_field : Cond.classLink RX11 28 RX2 ∈ wsX11_field := (List.mem_of_getElem? (i := 3) rfl)
theorem il_X11_field : Cond.instantiable RX2 12 ∈ wsX11_field := (List.mem_of_getElem? (i := 4) rfl)
theorem nl_X11_field : Cond.initialized RX2 ∈ wsX11_field := (List.mem_of_getElem? (i := 5) rfl)
/-- rows of fields are there only where a field stands -/
noncomputable def FI (V : Vx) (σ : Sg) : Prop := ∀ k, k < 6 → gr σ 49 k = none → ∀ r, r < 5 → 1000 + 5 * k + r ∉ ids V
theorem lim_0_5 : lim 0 5 = some (0, 6) := rfl
theorem lim_0_7 : lim 0 7 = some (0, 100) := rfl
noncomputable abbrev SFd : Nat → Prop := fun id => (69 ≤ id ∧ id < 74) ∨ (1000 ≤ id ∧ id < 2000)
noncomputable abbrev FFd : Nat → Nat → Prop := fun id k => (id = 0 ∧ (k = 5 ∨ k = 7)) ∨ (id = 1 ∧ k = 10) ∨ id = 49
noncomputable def K_X11_field (l : Launch) (V : Vx) (σ : Sg) (Qk : Int32 → Vx → Sg → Prop) : Prop := KaN l V yX11_field wsX11_field (rmr 24 5 142) 5 142 [.ref 0] σ (QIW V Qk)
