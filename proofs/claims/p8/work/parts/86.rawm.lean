noncomputable def MB (V : Vx) (ω0 : RWd) (h : Nat) (ω : RWd) : Prop := ∃ q10 q17 q24 q31 q38 q45 q52 q59 q81 q88 q95 q102 q109 q116 q123 q130 q146 q213 q223 q230 q240 q247 q254 q261 q268 q275 q282 q292 q299 q306 q319 q326 q354 q361 q368 q375 q382 q389 q396 q403 q410 q417 q424 q431 q438 q448 q455 q480 q487 q494 : Nat, BT ω0 ω h [(q10, .inl (vC V 0, (6, .inl (fun _ => 0)))), (q17, .inl (vC V 0, (6, .inl (fun _ => 0)))), (q24, .inl (vC V 0, (6, .inl (fun _ => 0)))), (q31, .inl (vC V 0, (6, .inl (fun _ => 0)))), (q38, .inl (vC V 0, (6, .inl (fun _ => 0)))), (q45, .inl (vC V 0, (6, .inl (fun _ => 0)))), (q52, .inl (vC V 0, (24, .inl (fun _ => 0)))), (q59, .inl (vC V 0, (6, .inl (fun _ => 0)))), (q81, .inl (vC V 0, (100, .inl (fun _ => 0)))), (q88, .inl (vC V 0, (6, .inl (fun _ => 0)))), (q95, .inl (vC V 0, (60, .inl (fun _ => 0)))), (q102, .inl (vC V 0, (60, .inl (fun _ => 0)))), (q109, .inl (vC V 0, (60, .inl (fun _ => 0)))), (q116, .inl (vC V 0, (60, .inl (fun _ => 0)))), (q123, .inl (vC V 0, (600, .inl (fun _ => 0)))), (q130, .inl (vC V 0, (101, .inl (fun _ => 0)))), (q146, .inl (vC V 0, (19, .inl (upd (upd (upd (upd (upd (upd (upd (upd (upd (upd (upd (upd (upd (upd (upd (upd (upd (upd (upd (fun _ => 0) 0 (102 : Int32)) 1 (97 : Int32)) 2 (115 : Int32)) 3 (116 : Int32)) 4 (115 : Int32)) 5 (108 : Int32)) 6 (111 : Int32)) 7 (119 : Int32)) 8 (103 : Int32)) 9 (97 : Int32)) 10 (112 : Int32)) 11 (116 : Int32)) 12 (105 : Int32)) 13 (114 : Int32)) 14 (101 : Int32)) 15 (108 : Int32)) 16 (111 : Int32)) 17 (110 : Int32)) 18 (103 : Int32))))), (q213, .inl (vC V 2, (100, .inl (fun _ => 0)))), (q223, .inl (vC V 0, (6, .inl (fun _ => 0)))), (q230, .inl (vC V 0, (6, .inl (fun _ => 0)))), (q240, .inl (vC V 0, (6, .inl (fun _ => 0)))), (q247, .inl (vC V 0, (6, .inl (fun _ => 0)))), (q254, .inl (vC V 0, (6, .inl (fun _ => 0)))), (q261, .inl (vC V 0, (6, .inl (fun _ => 0)))), (q268, .inl (vC V 0, (6, .inl (fun _ => 0)))), (q275, .inl (vC V 0, (6, .inl (fun _ => 0)))), (q282, .inl (vC V 0, (6, .inl (fun _ => 0)))), (q292, .inl (vC V 0, (6, .inl (fun _ => 0)))), (q299, .inl (vC V 0, (6, .inl (fun _ => 0)))), (q306, .inl (vC V 0, (6, .inl (fun _ => 0)))), (q319, .inl (vC V 0, (10, .inl (fun _ => 0)))), (q326, .inl (vC V 0, (8, .inl (fun _ => 0)))), (q354, .inl (vC V 0, (6, .inl (fun _ => 0)))), (q361, .inl (vC V 0, (6, .inl (fun _ => 0)))), (q368, .inl (vC V 0, (6, .inl (fun _ => 0)))), (q375, .inl (vC V 0, (6, .inl (fun _ => 0)))), (q382, .inl (vC V 0, (6, .inl (fun _ => 0)))), (q389, .inl (vC V 0, (6, .inl (fun _ => 0)))), (q396, .inl (vC V 0, (6, .inl (fun _ => 0)))), (q403, .inl (vC V 0, (24, .inl (fun _ => 0)))), (q410, .inl (vC V 0, (6, .inl (fun _ => 0)))), (q417, .inl (vC V 0, (6, .inl (fun _ => 0)))), (q424, .inl (vC V 0, (6, .inl (fun _ => 0)))), (q431, .inl (vC V 0, (10, .inl (fun _ => 0)))), (q438, .inl (vC V 0, (8, .inl (fun _ => 0)))), (q448, .inl (vC V 0, (20, .inl (fun _ => 0)))), (q455, .inl (vC V 0, (6, .inl (upd (upd (upd (upd (upd (upd (fun _ => 0) 0 (-1 : Int32)) 1 (-1 : Int32)) 2 (-1 : Int32)) 3 (-1 : Int32)) 4 (-1 : Int32)) 5 (-1 : Int32))))), (q480, .inl (vC V 0, (6, .inl (fun _ => 0)))), (q487, .inl (vC V 3, (360, .inr (.inl (fun _ => 0))))), (q494, .inl (vC V 3, (60, .inr (.inl (fun _ => 0)))))] ∧ ω.2 h = .inr (12, [.int (0 : Int32), .int (0 : Int32), .int (0 : Int32), .ref q10, .ref q17, .ref q24, .ref q31, .ref q38, .ref q45, .ref q52, .ref q59, .int (0 : Int32), .int (-1 : Int32), .int (0 : Int32), .int (0 : Int32), .int (0 : Int32), .ref q81, .ref q88, .ref q95, .ref q102, .ref q109, .ref q116, .ref q123, .ref q130, .int (0 : Int32), .int (0 : Int32), .int (0 : Int32), .ref q146, .int (-1 : Int32), .ref q213, .int (0 : Int32), .ref q223, .ref q230, .int (0 : Int32), .ref q240, .ref q247, .ref q254, .ref q261, .ref q268, .ref q275, .ref q282, .int (0 : Int32), .ref q292, .ref q299, .ref q306, .int (0 : Int32), .int (0 : Int32), .ref q319, .ref q326, .int (0 : Int32), .int (-1 : Int32), .int (0 : Int32), .int (0 : Int32), .int (0 : Int32), .int (0 : Int32), .int (0 : Int32), .ref q354, .ref q361, .ref q368, .ref q375, .ref q382, .ref q389, .ref q396, .ref q403, .ref q410, .ref q417, .ref q424, .ref q431, .ref q438, .int (0 : Int32), .ref q448, .ref q455, .ref q480, .ref q487, .ref q494])
theorem pa_X12_init_7 : PA RX12 wsX12_init 7 12 0 "NineMowersModel" .int := by
  show _ ∧ _ ∧ _ ∧ _ ∧ _ ∧ _ ∧ _ ∧ _
  exact ⟨by decide +kernel, fun _ h => List.mem_cons_of_mem _ (List.mem_append_right _ h), List.mem_of_getElem? (i := 4) rfl, rfl, rfl, by decide +kernel, ⟨tyX12, tyX12_ok⟩, nmX12⟩
theorem pa_X12_init_13 : PA RX12 wsX12_init 13 12 1 "NineMowersModel" .int := by
  show _ ∧ _ ∧ _ ∧ _ ∧ _ ∧ _ ∧ _ ∧ _
  exact ⟨by decide +kernel, fun _ h => List.mem_cons_of_mem _ (List.mem_append_right _ h), List.mem_of_getElem? (i := 5) rfl, rfl, rfl, by decide +kernel, ⟨tyX12, tyX12_ok⟩, nmX12⟩
theorem pa_X12_init_16 : PA RX12 wsX12_init 16 12 2 "NineMowersModel" .int := by
  show _ ∧ _ ∧ _ ∧ _ ∧ _ ∧ _ ∧ _ ∧ _
  exact ⟨by decide +kernel, fun _ h => List.mem_cons_of_mem _ (List.mem_append_right _ h), List.mem_of_getElem? (i := 6) rfl, rfl, rfl, by decide +kernel, ⟨tyX12, tyX12_ok⟩, nmX12⟩
theorem pf_X12_init_19 : PF RX12 wsX12_init 19 12 3 "NineMowersModel" (.array .int) := by
  show _ ∧ _ ∧ _ ∧ _ ∧ _ ∧ _ ∧ _ ∧ _ ∧ _
  exact ⟨by decide +kernel, fun _ h => List.mem_cons_of_mem _ (List.mem_append_right _ h), List.mem_of_getElem? (i := 8) rfl, rfl, rfl, rfl, by decide +kernel, ⟨tyX12, tyX12_ok⟩, nmX12⟩
theorem pf_X12_init_23 : PF RX12 wsX12_init 23 12 4 "NineMowersModel" (.array .int) := by
  show _ ∧ _ ∧ _ ∧ _ ∧ _ ∧ _ ∧ _ ∧ _ ∧ _
  exact ⟨by decide +kernel, fun _ h => List.mem_cons_of_mem _ (List.mem_append_right _ h), List.mem_of_getElem? (i := 9) rfl, rfl, rfl, rfl, by decide +kernel, ⟨tyX12, tyX12_ok⟩, nmX12⟩
theorem pf_X12_init_26 : PF RX12 wsX12_init 26 12 5 "NineMowersModel" (.array .int) := by
  show _ ∧ _ ∧ _ ∧ _ ∧ _ ∧ _ ∧ _ ∧ _ ∧ _
  exact ⟨by decide +kernel, fun _ h => List.mem_cons_of_mem _ (List.mem_append_right _ h), List.mem_of_getElem? (i := 10) rfl, rfl, rfl, rfl, by decide +kernel, ⟨tyX12, tyX12_ok⟩, nmX12⟩
theorem pf_X12_init_29 : PF RX12 wsX12_init 29 12 6 "NineMowersModel" (.array .int) := by
  show _ ∧ _ ∧ _ ∧ _ ∧ _ ∧ _ ∧ _ ∧ _ ∧ _
  exact ⟨by decide +kernel, fun _ h => List.mem_cons_of_mem _ (List.mem_append_right _ h), List.mem_of_getElem? (i := 11) rfl, rfl, rfl, rfl, by decide +kernel, ⟨tyX12, tyX12_ok⟩, nmX12⟩
theorem pf_X12_init_32 : PF RX12 wsX12_init 32 12 7 "NineMowersModel" (.array .int) := by
  show _ ∧ _ ∧ _ ∧ _ ∧ _ ∧ _ ∧ _ ∧ _ ∧ _
  exact ⟨by decide +kernel, fun _ h => List.mem_cons_of_mem _ (List.mem_append_right _ h), List.mem_of_getElem? (i := 12) rfl, rfl, rfl, rfl, by decide +kernel, ⟨tyX12, tyX12_ok⟩, nmX12⟩
theorem pf_X12_init_35 : PF RX12 wsX12_init 35 12 8 "NineMowersModel" (.array .int) := by
  show _ ∧ _ ∧ _ ∧ _ ∧ _ ∧ _ ∧ _ ∧ _ ∧ _
  exact ⟨by decide +kernel, fun _ h => List.mem_cons_of_mem _ (List.mem_append_right _ h), List.mem_of_getElem? (i := 13) rfl, rfl, rfl, rfl, by decide +kernel, ⟨tyX12, tyX12_ok⟩, nmX12⟩
theorem pf_X12_init_38 : PF RX12 wsX12_init 38 12 9 "NineMowersModel" (.array .int) := by
  show _ ∧ _ ∧ _ ∧ _ ∧ _ ∧ _ ∧ _ ∧ _ ∧ _
  exact ⟨by decide +kernel, fun _ h => List.mem_cons_of_mem _ (List.mem_append_right _ h), List.mem_of_getElem? (i := 14) rfl, rfl, rfl, rfl, by decide +kernel, ⟨tyX12, tyX12_ok⟩, nmX12⟩
theorem pf_X12_init_41 : PF RX12 wsX12_init 41 12 10 "NineMowersModel" (.array .int) := by
  show _ ∧ _ ∧ _ ∧ _ ∧ _ ∧ _ ∧ _ ∧ _ ∧ _
  exact ⟨by decide +kernel, fun _ h => List.mem_cons_of_mem _ (List.mem_append_right _ h), List.mem_of_getElem? (i := 15) rfl, rfl, rfl, rfl, by decide +kernel, ⟨tyX12, tyX12_ok⟩, nmX12⟩
theorem pa_X12_init_44 : PA RX12 wsX12_init 44 12 11 "NineMowersModel" .int := by
  show _ ∧ _ ∧ _ ∧ _ ∧ _ ∧ _ ∧ _ ∧ _
  exact ⟨by decide +kernel, fun _ h => List.mem_cons_of_mem _ (List.mem_append_right _ h), List.mem_of_getElem? (i := 16) rfl, rfl, rfl, by decide +kernel, ⟨tyX12, tyX12_ok⟩, nmX12⟩
theorem pa_X12_init_47 : PA RX12 wsX12_init 47 12 12 "NineMowersModel" .int := by
  show _ ∧ _ ∧ _ ∧ _ ∧ _ ∧ _ ∧ _ ∧ _
  exact ⟨by decide +kernel, fun _ h => List.mem_cons_of_mem _ (List.mem_append_right _ h), List.mem_of_getElem? (i := 17) rfl, rfl, rfl, by decide +kernel, ⟨tyX12, tyX12_ok⟩, nmX12⟩
theorem pa_X12_init_50 : PA RX12 wsX12_init 50 12 13 "NineMowersModel" .int := by
  show _ ∧ _ ∧ _ ∧ _ ∧ _ ∧ _ ∧ _ ∧ _
  exact ⟨by decide +kernel, fun _ h => List.mem_cons_of_mem _ (List.mem_append_right _ h), List.mem_of_getElem? (i := 18) rfl, rfl, rfl, by decide +kernel, ⟨tyX12, tyX12_ok⟩, nmX12⟩
theorem pa_X12_init_53 : PA RX12 wsX12_init 53 12 14 "NineMowersModel" .int := by
  show _ ∧ _ ∧ _ ∧ _ ∧ _ ∧ _ ∧ _ ∧ _
  exact ⟨by decide +kernel, fun _ h => List.mem_cons_of_mem _ (List.mem_append_right _ h), List.mem_of_getElem? (i := 19) rfl, rfl, rfl, by decide +kernel, ⟨tyX12, tyX12_ok⟩, nmX12⟩
theorem pa_X12_init_56 : PA RX12 wsX12_init 56 12 15 "NineMowersModel" .int := by
  show _ ∧ _ ∧ _ ∧ _ ∧ _ ∧ _ ∧ _ ∧ _
  exact ⟨by decide +kernel, fun _ h => List.mem_cons_of_mem _ (List.mem_append_right _ h), List.mem_of_getElem? (i := 20) rfl, rfl, rfl, by decide +kernel, ⟨tyX12, tyX12_ok⟩, nmX12⟩
theorem pf_X12_init_59 : PF RX12 wsX12_init 59 12 16 "NineMowersModel" (.array .int) := by
  show _ ∧ _ ∧ _ ∧ _ ∧ _ ∧ _ ∧ _ ∧ _ ∧ _
  exact ⟨by decide +kernel, fun _ h => List.mem_cons_of_mem _ (List.mem_append_right _ h), List.mem_of_getElem? (i := 21) rfl, rfl, rfl, rfl, by decide +kernel, ⟨tyX12, tyX12_ok⟩, nmX12⟩
theorem pf_X12_init_62 : PF RX12 wsX12_init 62 12 17 "NineMowersModel" (.array .int) := by
  show _ ∧ _ ∧ _ ∧ _ ∧ _ ∧ _ ∧ _ ∧ _ ∧ _
  exact ⟨by decide +kernel, fun _ h => List.mem_cons_of_mem _ (List.mem_append_right _ h), List.mem_of_getElem? (i := 22) rfl, rfl, rfl, rfl, by decide +kernel, ⟨tyX12, tyX12_ok⟩, nmX12⟩
theorem pf_X12_init_65 : PF RX12 wsX12_init 65 12 18 "NineMowersModel" (.array .int) := by
  show _ ∧ _ ∧ _ ∧ _ ∧ _ ∧ _ ∧ _ ∧ _ ∧ _
  exact ⟨by decide +kernel, fun _ h => List.mem_cons_of_mem _ (List.mem_append_right _ h), List.mem_of_getElem? (i := 23) rfl, rfl, rfl, rfl, by decide +kernel, ⟨tyX12, tyX12_ok⟩, nmX12⟩
theorem pf_X12_init_68 : PF RX12 wsX12_init 68 12 19 "NineMowersModel" (.array .int) := by
  show _ ∧ _ ∧ _ ∧ _ ∧ _ ∧ _ ∧ _ ∧ _ ∧ _
  exact ⟨by decide +kernel, fun _ h => List.mem_cons_of_mem _ (List.mem_append_right _ h), List.mem_of_getElem? (i := 24) rfl, rfl, rfl, rfl, by decide +kernel, ⟨tyX12, tyX12_ok⟩, nmX12⟩
theorem pf_X12_init_71 : PF RX12 wsX12_init 71 12 20 "NineMowersModel" (.array .int) := by
  show _ ∧ _ ∧ _ ∧ _ ∧ _ ∧ _ ∧ _ ∧ _ ∧ _
  exact ⟨by decide +kernel, fun _ h => List.mem_cons_of_mem _ (List.mem_append_right _ h), List.mem_of_getElem? (i := 25) rfl, rfl, rfl, rfl, by decide +kernel, ⟨tyX12, tyX12_ok⟩, nmX12⟩
theorem pf_X12_init_74 : PF RX12 wsX12_init 74 12 21 "NineMowersModel" (.array .int) := by
  show _ ∧ _ ∧ _ ∧ _ ∧ _ ∧ _ ∧ _ ∧ _ ∧ _
  exact ⟨by decide +kernel, fun _ h => List.mem_cons_of_mem _ (List.mem_append_right _ h), List.mem_of_getElem? (i := 26) rfl, rfl, rfl, rfl, by decide +kernel, ⟨tyX12, tyX12_ok⟩, nmX12⟩
theorem pf_X12_init_77 : PF RX12 wsX12_init 77 12 22 "NineMowersModel" (.array .int) := by
  show _ ∧ _ ∧ _ ∧ _ ∧ _ ∧ _ ∧ _ ∧ _ ∧ _
  exact ⟨by decide +kernel, fun _ h => List.mem_cons_of_mem _ (List.mem_append_right _ h), List.mem_of_getElem? (i := 27) rfl, rfl, rfl, rfl, by decide +kernel, ⟨tyX12, tyX12_ok⟩, nmX12⟩
theorem pf_X12_init_80 : PF RX12 wsX12_init 80 12 23 "NineMowersModel" (.array .int) := by
  show _ ∧ _ ∧ _ ∧ _ ∧ _ ∧ _ ∧ _ ∧ _ ∧ _
  exact ⟨by decide +kernel, fun _ h => List.mem_cons_of_mem _ (List.mem_append_right _ h), List.mem_of_getElem? (i := 28) rfl, rfl, rfl, rfl, by decide +kernel, ⟨tyX12, tyX12_ok⟩, nmX12⟩
theorem pa_X12_init_83 : PA RX12 wsX12_init 83 12 24 "NineMowersModel" .int := by
  show _ ∧ _ ∧ _ ∧ _ ∧ _ ∧ _ ∧ _ ∧ _
  exact ⟨by decide +kernel, fun _ h => List.mem_cons_of_mem _ (List.mem_append_right _ h), List.mem_of_getElem? (i := 29) rfl, rfl, rfl, by decide +kernel, ⟨tyX12, tyX12_ok⟩, nmX12⟩
theorem pa_X12_init_86 : PA RX12 wsX12_init 86 12 25 "NineMowersModel" .int := by
  show _ ∧ _ ∧ _ ∧ _ ∧ _ ∧ _ ∧ _ ∧ _
  exact ⟨by decide +kernel, fun _ h => List.mem_cons_of_mem _ (List.mem_append_right _ h), List.mem_of_getElem? (i := 30) rfl, rfl, rfl, by decide +kernel, ⟨tyX12, tyX12_ok⟩, nmX12⟩
theorem pa_X12_init_89 : PA RX12 wsX12_init 89 12 26 "NineMowersModel" .int := by
  show _ ∧ _ ∧ _ ∧ _ ∧ _ ∧ _ ∧ _ ∧ _
  exact ⟨by decide +kernel, fun _ h => List.mem_cons_of_mem _ (List.mem_append_right _ h), List.mem_of_getElem? (i := 31) rfl, rfl, rfl, by decide +kernel, ⟨tyX12, tyX12_ok⟩, nmX12⟩
theorem pf_X12_init_92 : PF RX12 wsX12_init 92 12 27 "NineMowersModel" (.array .int) := by
  show _ ∧ _ ∧ _ ∧ _ ∧ _ ∧ _ ∧ _ ∧ _ ∧ _
  exact ⟨by decide +kernel, fun _ h => List.mem_cons_of_mem _ (List.mem_append_right _ h), List.mem_of_getElem? (i := 32) rfl, rfl, rfl, rfl, by decide +kernel, ⟨tyX12, tyX12_ok⟩, nmX12⟩
theorem pa_X12_init_95 : PA RX12 wsX12_init 95 12 28 "NineMowersModel" .int := by
  show _ ∧ _ ∧ _ ∧ _ ∧ _ ∧ _ ∧ _ ∧ _
  exact ⟨by decide +kernel, fun _ h => List.mem_cons_of_mem _ (List.mem_append_right _ h), List.mem_of_getElem? (i := 33) rfl, rfl, rfl, by decide +kernel, ⟨tyX12, tyX12_ok⟩, nmX12⟩
theorem pf_X12_init_98 : PF RX12 wsX12_init 98 12 29 "NineMowersModel" (.array .boolean) := by
  show _ ∧ _ ∧ _ ∧ _ ∧ _ ∧ _ ∧ _ ∧ _ ∧ _
  exact ⟨by decide +kernel, fun _ h => List.mem_cons_of_mem _ (List.mem_append_right _ h), List.mem_of_getElem? (i := 35) rfl, rfl, rfl, rfl, by decide +kernel, ⟨tyX12, tyX12_ok⟩, nmX12⟩
theorem pa_X12_init_102 : PA RX12 wsX12_init 102 12 30 "NineMowersModel" .int := by
  show _ ∧ _ ∧ _ ∧ _ ∧ _ ∧ _ ∧ _ ∧ _
  exact ⟨by decide +kernel, fun _ h => List.mem_cons_of_mem _ (List.mem_append_right _ h), List.mem_of_getElem? (i := 36) rfl, rfl, rfl, by decide +kernel, ⟨tyX12, tyX12_ok⟩, nmX12⟩
theorem pf_X12_init_105 : PF RX12 wsX12_init 105 12 31 "NineMowersModel" (.array .int) := by
  show _ ∧ _ ∧ _ ∧ _ ∧ _ ∧ _ ∧ _ ∧ _ ∧ _
  exact ⟨by decide +kernel, fun _ h => List.mem_cons_of_mem _ (List.mem_append_right _ h), List.mem_of_getElem? (i := 37) rfl, rfl, rfl, rfl, by decide +kernel, ⟨tyX12, tyX12_ok⟩, nmX12⟩
theorem pf_X12_init_108 : PF RX12 wsX12_init 108 12 32 "NineMowersModel" (.array .int) := by
  show _ ∧ _ ∧ _ ∧ _ ∧ _ ∧ _ ∧ _ ∧ _ ∧ _
  exact ⟨by decide +kernel, fun _ h => List.mem_cons_of_mem _ (List.mem_append_right _ h), List.mem_of_getElem? (i := 38) rfl, rfl, rfl, rfl, by decide +kernel, ⟨tyX12, tyX12_ok⟩, nmX12⟩
theorem pa_X12_init_111 : PA RX12 wsX12_init 111 12 33 "NineMowersModel" .int := by
  show _ ∧ _ ∧ _ ∧ _ ∧ _ ∧ _ ∧ _ ∧ _
  exact ⟨by decide +kernel, fun _ h => List.mem_cons_of_mem _ (List.mem_append_right _ h), List.mem_of_getElem? (i := 39) rfl, rfl, rfl, by decide +kernel, ⟨tyX12, tyX12_ok⟩, nmX12⟩
theorem pf_X12_init_114 : PF RX12 wsX12_init 114 12 34 "NineMowersModel" (.array .int) := by
  show _ ∧ _ ∧ _ ∧ _ ∧ _ ∧ _ ∧ _ ∧ _ ∧ _
  exact ⟨by decide +kernel, fun _ h => List.mem_cons_of_mem _ (List.mem_append_right _ h), List.mem_of_getElem? (i := 40) rfl, rfl, rfl, rfl, by decide +kernel, ⟨tyX12, tyX12_ok⟩, nmX12⟩
theorem pf_X12_init_117 : PF RX12 wsX12_init 117 12 35 "NineMowersModel" (.array .int) := by
  show _ ∧ _ ∧ _ ∧ _ ∧ _ ∧ _ ∧ _ ∧ _ ∧ _
  exact ⟨by decide +kernel, fun _ h => List.mem_cons_of_mem _ (List.mem_append_right _ h), List.mem_of_getElem? (i := 41) rfl, rfl, rfl, rfl, by decide +kernel, ⟨tyX12, tyX12_ok⟩, nmX12⟩
theorem pf_X12_init_120 : PF RX12 wsX12_init 120 12 36 "NineMowersModel" (.array .int) := by
  show _ ∧ _ ∧ _ ∧ _ ∧ _ ∧ _ ∧ _ ∧ _ ∧ _
  exact ⟨by decide +kernel, fun _ h => List.mem_cons_of_mem _ (List.mem_append_right _ h), List.mem_of_getElem? (i := 42) rfl, rfl, rfl, rfl, by decide +kernel, ⟨tyX12, tyX12_ok⟩, nmX12⟩
theorem pf_X12_init_123 : PF RX12 wsX12_init 123 12 37 "NineMowersModel" (.array .int) := by
  show _ ∧ _ ∧ _ ∧ _ ∧ _ ∧ _ ∧ _ ∧ _ ∧ _
  exact ⟨by decide +kernel, fun _ h => List.mem_cons_of_mem _ (List.mem_append_right _ h), List.mem_of_getElem? (i := 43) rfl, rfl, rfl, rfl, by decide +kernel, ⟨tyX12, tyX12_ok⟩, nmX12⟩
theorem pf_X12_init_126 : PF RX12 wsX12_init 126 12 38 "NineMowersModel" (.array .int) := by
  show _ ∧ _ ∧ _ ∧ _ ∧ _ ∧ _ ∧ _ ∧ _ ∧ _
  exact ⟨by decide +kernel, fun _ h => List.mem_cons_of_mem _ (List.mem_append_right _ h), List.mem_of_getElem? (i := 44) rfl, rfl, rfl, rfl, by decide +kernel, ⟨tyX12, tyX12_ok⟩, nmX12⟩
theorem pf_X12_init_129 : PF RX12 wsX12_init 129 12 39 "NineMowersModel" (.array .int) := by
  show _ ∧ _ ∧ _ ∧ _ ∧ _ ∧ _ ∧ _ ∧ _ ∧ _
  exact ⟨by decide +kernel, fun _ h => List.mem_cons_of_mem _ (List.mem_append_right _ h), List.mem_of_getElem? (i := 45) rfl, rfl, rfl, rfl, by decide +kernel, ⟨tyX12, tyX12_ok⟩, nmX12⟩
theorem pf_X12_init_132 : PF RX12 wsX12_init 132 12 40 "NineMowersModel" (.array .int) := by
  show _ ∧ _ ∧ _ ∧ _ ∧ _ ∧ _ ∧ _ ∧ _ ∧ _
  exact ⟨by decide +kernel, fun _ h => List.mem_cons_of_mem _ (List.mem_append_right _ h), List.mem_of_getElem? (i := 46) rfl, rfl, rfl, rfl, by decide +kernel, ⟨tyX12, tyX12_ok⟩, nmX12⟩
theorem pa_X12_init_135 : PA RX12 wsX12_init 135 12 41 "NineMowersModel" .int := by
  show _ ∧ _ ∧ _ ∧ _ ∧ _ ∧ _ ∧ _ ∧ _
  exact ⟨by decide +kernel, fun _ h => List.mem_cons_of_mem _ (List.mem_append_right _ h), List.mem_of_getElem? (i := 47) rfl, rfl, rfl, by decide +kernel, ⟨tyX12, tyX12_ok⟩, nmX12⟩
theorem pf_X12_init_138 : PF RX12 wsX12_init 138 12 42 "NineMowersModel" (.array .int) := by
  show _ ∧ _ ∧ _ ∧ _ ∧ _ ∧ _ ∧ _ ∧ _ ∧ _
  exact ⟨by decide +kernel, fun _ h => List.mem_cons_of_mem _ (List.mem_append_right _ h), List.mem_of_getElem? (i := 48) rfl, rfl, rfl, rfl, by decide +kernel, ⟨tyX12, tyX12_ok⟩, nmX12⟩
theorem pf_X12_init_141 : PF RX12 wsX12_init 141 12 43 "NineMowersModel" (.array .int) := by
  show _ ∧ _ ∧ _ ∧ _ ∧ _ ∧ _ ∧ _ ∧ _ ∧ _
  exact ⟨by decide +kernel, fun _ h => List.mem_cons_of_mem _ (List.mem_append_right _ h), List.mem_of_getElem? (i := 49) rfl, rfl, rfl, rfl, by decide +kernel, ⟨tyX12, tyX12_ok⟩, nmX12⟩
theorem pf_X12_init_144 : PF RX12 wsX12_init 144 12 44 "NineMowersModel" (.array .int) := by
  show _ ∧ _ ∧ _ ∧ _ ∧ _ ∧ _ ∧ _ ∧ _ ∧ _
  exact ⟨by decide +kernel, fun _ h => List.mem_cons_of_mem _ (List.mem_append_right _ h), List.mem_of_getElem? (i := 50) rfl, rfl, rfl, rfl, by decide +kernel, ⟨tyX12, tyX12_ok⟩, nmX12⟩
theorem pa_X12_init_147 : PA RX12 wsX12_init 147 12 45 "NineMowersModel" .int := by
  show _ ∧ _ ∧ _ ∧ _ ∧ _ ∧ _ ∧ _ ∧ _
  exact ⟨by decide +kernel, fun _ h => List.mem_cons_of_mem _ (List.mem_append_right _ h), List.mem_of_getElem? (i := 51) rfl, rfl, rfl, by decide +kernel, ⟨tyX12, tyX12_ok⟩, nmX12⟩
theorem pa_X12_init_150 : PA RX12 wsX12_init 150 12 46 "NineMowersModel" .int := by
  show _ ∧ _ ∧ _ ∧ _ ∧ _ ∧ _ ∧ _ ∧ _
  exact ⟨by decide +kernel, fun _ h => List.mem_cons_of_mem _ (List.mem_append_right _ h), List.mem_of_getElem? (i := 52) rfl, rfl, rfl, by decide +kernel, ⟨tyX12, tyX12_ok⟩, nmX12⟩
theorem pf_X12_init_153 : PF RX12 wsX12_init 153 12 47 "NineMowersModel" (.array .int) := by
  show _ ∧ _ ∧ _ ∧ _ ∧ _ ∧ _ ∧ _ ∧ _ ∧ _
  exact ⟨by decide +kernel, fun _ h => List.mem_cons_of_mem _ (List.mem_append_right _ h), List.mem_of_getElem? (i := 53) rfl, rfl, rfl, rfl, by decide +kernel, ⟨tyX12, tyX12_ok⟩, nmX12⟩
theorem pf_X12_init_156 : PF RX12 wsX12_init 156 12 48 "NineMowersModel" (.array .int) := by
  show _ ∧ _ ∧ _ ∧ _ ∧ _ ∧ _ ∧ _ ∧ _ ∧ _
  exact ⟨by decide +kernel, fun _ h => List.mem_cons_of_mem _ (List.mem_append_right _ h), List.mem_of_getElem? (i := 54) rfl, rfl, rfl, rfl, by decide +kernel, ⟨tyX12, tyX12_ok⟩, nmX12⟩
theorem pa_X12_init_159 : PA RX12 wsX12_init 159 12 49 "NineMowersModel" .boolean := by
  show _ ∧ _ ∧ _ ∧ _ ∧ _ ∧ _ ∧ _ ∧ _
  exact ⟨by decide +kernel, fun _ h => List.mem_cons_of_mem _ (List.mem_append_right _ h), List.mem_of_getElem? (i := 55) rfl, rfl, rfl, by decide +kernel, ⟨tyX12, tyX12_ok⟩, nmX12⟩
theorem pa_X12_init_163 : PA RX12 wsX12_init 163 12 50 "NineMowersModel" .int := by
  show _ ∧ _ ∧ _ ∧ _ ∧ _ ∧ _ ∧ _ ∧ _
  exact ⟨by decide +kernel, fun _ h => List.mem_cons_of_mem _ (List.mem_append_right _ h), List.mem_of_getElem? (i := 56) rfl, rfl, rfl, by decide +kernel, ⟨tyX12, tyX12_ok⟩, nmX12⟩
theorem pa_X12_init_166 : PA RX12 wsX12_init 166 12 51 "NineMowersModel" .int := by
  show _ ∧ _ ∧ _ ∧ _ ∧ _ ∧ _ ∧ _ ∧ _
  exact ⟨by decide +kernel, fun _ h => List.mem_cons_of_mem _ (List.mem_append_right _ h), List.mem_of_getElem? (i := 57) rfl, rfl, rfl, by decide +kernel, ⟨tyX12, tyX12_ok⟩, nmX12⟩
theorem pa_X12_init_169 : PA RX12 wsX12_init 169 12 52 "NineMowersModel" .int := by
  show _ ∧ _ ∧ _ ∧ _ ∧ _ ∧ _ ∧ _ ∧ _
  exact ⟨by decide +kernel, fun _ h => List.mem_cons_of_mem _ (List.mem_append_right _ h), List.mem_of_getElem? (i := 58) rfl, rfl, rfl, by decide +kernel, ⟨tyX12, tyX12_ok⟩, nmX12⟩
theorem pa_X12_init_172 : PA RX12 wsX12_init 172 12 53 "NineMowersModel" .int := by
  show _ ∧ _ ∧ _ ∧ _ ∧ _ ∧ _ ∧ _ ∧ _
  exact ⟨by decide +kernel, fun _ h => List.mem_cons_of_mem _ (List.mem_append_right _ h), List.mem_of_getElem? (i := 59) rfl, rfl, rfl, by decide +kernel, ⟨tyX12, tyX12_ok⟩, nmX12⟩
theorem pa_X12_init_175 : PA RX12 wsX12_init 175 12 54 "NineMowersModel" .int := by
  show _ ∧ _ ∧ _ ∧ _ ∧ _ ∧ _ ∧ _ ∧ _
  exact ⟨by decide +kernel, fun _ h => List.mem_cons_of_mem _ (List.mem_append_right _ h), List.mem_of_getElem? (i := 60) rfl, rfl, rfl, by decide +kernel, ⟨tyX12, tyX12_ok⟩, nmX12⟩
theorem pa_X12_init_178 : PA RX12 wsX12_init 178 12 55 "NineMowersModel" .int := by
  show _ ∧ _ ∧ _ ∧ _ ∧ _ ∧ _ ∧ _ ∧ _
  exact ⟨by decide +kernel, fun _ h => List.mem_cons_of_mem _ (List.mem_append_right _ h), List.mem_of_getElem? (i := 61) rfl, rfl, rfl, by decide +kernel, ⟨tyX12, tyX12_ok⟩, nmX12⟩
theorem pf_X12_init_181 : PF RX12 wsX12_init 181 12 56 "NineMowersModel" (.array .int) := by
  show _ ∧ _ ∧ _ ∧ _ ∧ _ ∧ _ ∧ _ ∧ _ ∧ _
  exact ⟨by decide +kernel, fun _ h => List.mem_cons_of_mem _ (List.mem_append_right _ h), List.mem_of_getElem? (i := 62) rfl, rfl, rfl, rfl, by decide +kernel, ⟨tyX12, tyX12_ok⟩, nmX12⟩
theorem pf_X12_init_184 : PF RX12 wsX12_init 184 12 57 "NineMowersModel" (.array .int) := by
  show _ ∧ _ ∧ _ ∧ _ ∧ _ ∧ _ ∧ _ ∧ _ ∧ _
  exact ⟨by decide +kernel, fun _ h => List.mem_cons_of_mem _ (List.mem_append_right _ h), List.mem_of_getElem? (i := 63) rfl, rfl, rfl, rfl, by decide +kernel, ⟨tyX12, tyX12_ok⟩, nmX12⟩
theorem pf_X12_init_187 : PF RX12 wsX12_init 187 12 58 "NineMowersModel" (.array .int) := by
  show _ ∧ _ ∧ _ ∧ _ ∧ _ ∧ _ ∧ _ ∧ _ ∧ _
  exact ⟨by decide +kernel, fun _ h => List.mem_cons_of_mem _ (List.mem_append_right _ h), List.mem_of_getElem? (i := 64) rfl, rfl, rfl, rfl, by decide +kernel, ⟨tyX12, tyX12_ok⟩, nmX12⟩
theorem pf_X12_init_190 : PF RX12 wsX12_init 190 12 59 "NineMowersModel" (.array .int) := by
  show _ ∧ _ ∧ _ ∧ _ ∧ _ ∧ _ ∧ _ ∧ _ ∧ _
  exact ⟨by decide +kernel, fun _ h => List.mem_cons_of_mem _ (List.mem_append_right _ h), List.mem_of_getElem? (i := 65) rfl, rfl, rfl, rfl, by decide +kernel, ⟨tyX12, tyX12_ok⟩, nmX12⟩
theorem pf_X12_init_193 : PF RX12 wsX12_init 193 12 60 "NineMowersModel" (.array .int) := by
  show _ ∧ _ ∧ _ ∧ _ ∧ _ ∧ _ ∧ _ ∧ _ ∧ _
  exact ⟨by decide +kernel, fun _ h => List.mem_cons_of_mem _ (List.mem_append_right _ h), List.mem_of_getElem? (i := 66) rfl, rfl, rfl, rfl, by decide +kernel, ⟨tyX12, tyX12_ok⟩, nmX12⟩
theorem pf_X12_init_196 : PF RX12 wsX12_init 196 12 61 "NineMowersModel" (.array .int) := by
  show _ ∧ _ ∧ _ ∧ _ ∧ _ ∧ _ ∧ _ ∧ _ ∧ _
  exact ⟨by decide +kernel, fun _ h => List.mem_cons_of_mem _ (List.mem_append_right _ h), List.mem_of_getElem? (i := 67) rfl, rfl, rfl, rfl, by decide +kernel, ⟨tyX12, tyX12_ok⟩, nmX12⟩
theorem pf_X12_init_199 : PF RX12 wsX12_init 199 12 62 "NineMowersModel" (.array .int) := by
  show _ ∧ _ ∧ _ ∧ _ ∧ _ ∧ _ ∧ _ ∧ _ ∧ _
  exact ⟨by decide +kernel, fun _ h => List.mem_cons_of_mem _ (List.mem_append_right _ h), List.mem_of_getElem? (i := 68) rfl, rfl, rfl, rfl, by decide +kernel, ⟨tyX12, tyX12_ok⟩, nmX12⟩
theorem pf_X12_init_202 : PF RX12 wsX12_init 202 12 63 "NineMowersModel" (.array .int) := by
  show _ ∧ _ ∧ _ ∧ _ ∧ _ ∧ _ ∧ _ ∧ _ ∧ _
  exact ⟨by decide +kernel, fun _ h => List.mem_cons_of_mem _ (List.mem_append_right _ h), List.mem_of_getElem? (i := 69) rfl, rfl, rfl, rfl, by decide +kernel, ⟨tyX12, tyX12_ok⟩, nmX12⟩
theorem pf_X12_init_205 : PF RX12 wsX12_init 205 12 64 "NineMowersModel" (.array .int) := by
  show _ ∧ _ ∧ _ ∧ _ ∧ _ ∧ _ ∧ _ ∧ _ ∧ _
  exact ⟨by decide +kernel, fun _ h => List.mem_cons_of_mem _ (List.mem_append_right _ h), List.mem_of_getElem? (i := 70) rfl, rfl, rfl, rfl, by decide +kernel, ⟨tyX12, tyX12_ok⟩, nmX12⟩
theorem pf_X12_init_208 : PF RX12 wsX12_init 208 12 65 "NineMowersModel" (.array .int) := by
  show _ ∧ _ ∧ _ ∧ _ ∧ _ ∧ _ ∧ _ ∧ _ ∧ _
  exact ⟨by decide +kernel, fun _ h => List.mem_cons_of_mem _ (List.mem_append_right _ h), List.mem_of_getElem? (i := 71) rfl, rfl, rfl, rfl, by decide +kernel, ⟨tyX12, tyX12_ok⟩, nmX12⟩
theorem pf_X12_init_211 : PF RX12 wsX12_init 211 12 66 "NineMowersModel" (.array .int) := by
  show _ ∧ _ ∧ _ ∧ _ ∧ _ ∧ _ ∧ _ ∧ _ ∧ _
  exact ⟨by decide +kernel, fun _ h => List.mem_cons_of_mem _ (List.mem_append_right _ h), List.mem_of_getElem? (i := 72) rfl, rfl, rfl, rfl, by decide +kernel, ⟨tyX12, tyX12_ok⟩, nmX12⟩
theorem pf_X12_init_214 : PF RX12 wsX12_init 214 12 67 "NineMowersModel" (.array .int) := by
  show _ ∧ _ ∧ _ ∧ _ ∧ _ ∧ _ ∧ _ ∧ _ ∧ _
  exact ⟨by decide +kernel, fun _ h => List.mem_cons_of_mem _ (List.mem_append_right _ h), List.mem_of_getElem? (i := 73) rfl, rfl, rfl, rfl, by decide +kernel, ⟨tyX12, tyX12_ok⟩, nmX12⟩
theorem pf_X12_init_217 : PF RX12 wsX12_init 217 12 68 "NineMowersModel" (.array .int) := by
  show _ ∧ _ ∧ _ ∧ _ ∧ _ ∧ _ ∧ _ ∧ _ ∧ _
  exact ⟨by decide +kernel, fun _ h => List.mem_cons_of_mem _ (List.mem_append_right _ h), List.mem_of_getElem? (i := 74) rfl, rfl, rfl, rfl, by decide +kernel, ⟨tyX12, tyX12_ok⟩, nmX12⟩
theorem pa_X12_init_220 : PA RX12 wsX12_init 220 12 69 "NineMowersModel" .int := by
  show _ ∧ _ ∧ _ ∧ _ ∧ _ ∧ _ ∧ _ ∧ _
  exact ⟨by decide +kernel, fun _ h => List.mem_cons_of_mem _ (List.mem_append_right _ h), List.mem_of_getElem? (i := 75) rfl, rfl, rfl, by decide +kernel, ⟨tyX12, tyX12_ok⟩, nmX12⟩
theorem pf_X12_init_223 : PF RX12 wsX12_init 223 12 70 "NineMowersModel" (.array .int) := by
  show _ ∧ _ ∧ _ ∧ _ ∧ _ ∧ _ ∧ _ ∧ _ ∧ _
  exact ⟨by decide +kernel, fun _ h => List.mem_cons_of_mem _ (List.mem_append_right _ h), List.mem_of_getElem? (i := 76) rfl, rfl, rfl, rfl, by decide +kernel, ⟨tyX12, tyX12_ok⟩, nmX12⟩
theorem pf_X12_init_226 : PF RX12 wsX12_init 226 12 71 "NineMowersModel" (.array .int) := by
  show _ ∧ _ ∧ _ ∧ _ ∧ _ ∧ _ ∧ _ ∧ _ ∧ _
  exact ⟨by decide +kernel, fun _ h => List.mem_cons_of_mem _ (List.mem_append_right _ h), List.mem_of_getElem? (i := 77) rfl, rfl, rfl, rfl, by decide +kernel, ⟨tyX12, tyX12_ok⟩, nmX12⟩
theorem pf_X12_init_229 : PF RX12 wsX12_init 229 12 72 "NineMowersModel" (.array .int) := by
  show _ ∧ _ ∧ _ ∧ _ ∧ _ ∧ _ ∧ _ ∧ _ ∧ _
  exact ⟨by decide +kernel, fun _ h => List.mem_cons_of_mem _ (List.mem_append_right _ h), List.mem_of_getElem? (i := 78) rfl, rfl, rfl, rfl, by decide +kernel, ⟨tyX12, tyX12_ok⟩, nmX12⟩
theorem pf_X12_init_232 : PF RX12 wsX12_init 232 12 73 "NineMowersModel" (.array .long) := by
  show _ ∧ _ ∧ _ ∧ _ ∧ _ ∧ _ ∧ _ ∧ _ ∧ _
  exact ⟨by decide +kernel, fun _ h => List.mem_cons_of_mem _ (List.mem_append_right _ h), List.mem_of_getElem? (i := 80) rfl, rfl, rfl, rfl, by decide +kernel, ⟨tyX12, tyX12_ok⟩, nmX12⟩
theorem pf_X12_init_236 : PF RX12 wsX12_init 236 12 74 "NineMowersModel" (.array .long) := by
  show _ ∧ _ ∧ _ ∧ _ ∧ _ ∧ _ ∧ _ ∧ _ ∧ _
  exact ⟨by decide +kernel, fun _ h => List.mem_cons_of_mem _ (List.mem_append_right _ h), List.mem_of_getElem? (i := 81) rfl, rfl, rfl, rfl, by decide +kernel, ⟨tyX12, tyX12_ok⟩, nmX12⟩
set_option maxRecDepth 100000 in
set_option maxHeartbeats 8000000 in
theorem k_X12_init {l : Launch} {V : Vx} {h : Nat} {ω0 : RWd} (hU : UPV V) (hm : h ∈ ω0.1) (c0 : ω0.2 h = .inr (12, [.int 0, .int 0, .int 0, .null, .null, .null, .null, .null, .null, .null, .null, .int 0, .int 0, .int 0, .int 0, .int 0, .null, .null, .null, .null, .null, .null, .null, .null, .int 0, .int 0, .int 0, .null, .int 0, .null, .int 0, .null, .null, .int 0, .null, .null, .null, .null, .null, .null, .null, .int 0, .null, .null, .null, .int 0, .int 0, .null, .null, .int 0, .int 0, .int 0, .int 0, .int 0, .int 0, .int 0, .null, .null, .null, .null, .null, .null, .null, .null, .null, .null, .null, .null, .null, .int 0, .null, .null, .null, .null, .null])) : Kr l V yX12_init wsX12_init (rmr 1 50 (1876)) 50 (1876) [.ref h] ω0 (QRV V (MB V ω0 h)) := by
  refine Kr_of (by decide +kernel) rfl rfl (Nat.le_of_ble_eq_true rfl) (fun M hl hV hN C hI => ?_)
  subst hl
  subst hV
  replace hI := hI rfl
  have b0 := BT_0 hm
  show PR M 0 [(0, .ref h)] [] ω0 (0, 0)
  refine Z_aload_n C dX12_init_0 0 rfl ?_
  refine Z_objInit C (List.mem_of_getElem? (i := 1) rfl) (List.mem_of_getElem? (i := 2) rfl) (List.mem_of_getElem? (i := 3) rfl) (Nat.le_of_ble_eq_true rfl) (Nat.le_of_ble_eq_true rfl) dX12_init_1 ?_
  refine Z_aload_n C dX12_init_4 0 rfl ?_
  refine Z_iconst C dX12_init_5 (v := (0 : Int32)) (by decide +kernel) ?_
  refine Y_put C pa_X12_init_7 b0 c0 rfl rfl (Nat.le_of_ble_eq_true rfl) dX12_init_6 (fun ω1 bZ cZ => ?_)
  have b2 := bZ
  clear bZ 
  have c3 : ω1.2 h = .inr (12, [.int (0 : Int32), .int 0, .int 0, .null, .null, .null, .null, .null, .null, .null, .null, .int 0, .int 0, .int 0, .int 0, .int 0, .null, .null, .null, .null, .null, .null, .null, .null, .int 0, .int 0, .int 0, .null, .int 0, .null, .int 0, .null, .null, .int 0, .null, .null, .null, .null, .null, .null, .null, .int 0, .null, .null, .null, .int 0, .int 0, .null, .null, .int 0, .int 0, .int 0, .int 0, .int 0, .int 0, .int 0, .null, .null, .null, .null, .null, .null, .null, .null, .null, .null, .null, .null, .null, .int 0, .null, .null, .null, .null, .null]) := cZ
  clear cZ
  refine Z_aload_n C dX12_init_9 0 rfl ?_
  refine Z_iconst C dX12_init_10 (v := (0 : Int32)) (by decide +kernel) ?_
  refine Y_put C pa_X12_init_13 b2 c3 rfl rfl (Nat.le_of_ble_eq_true rfl) dX12_init_11 (fun ω4 bZ cZ => ?_)
  have b5 := bZ
  clear bZ b2
  have c6 : ω4.2 h = .inr (12, [.int (0 : Int32), .int (0 : Int32), .int 0, .null, .null, .null, .null, .null, .null, .null, .null, .int 0, .int 0, .int 0, .int 0, .int 0, .null, .null, .null, .null, .null, .null, .null, .null, .int 0, .int 0, .int 0, .null, .int 0, .null, .int 0, .null, .null, .int 0, .null, .null, .null, .null, .null, .null, .null, .int 0, .null, .null, .null, .int 0, .int 0, .null, .null, .int 0, .int 0, .int 0, .int 0, .int 0, .int 0, .int 0, .null, .null, .null, .null, .null, .null, .null, .null, .null, .null, .null, .null, .null, .int 0, .null, .null, .null, .null, .null]) := cZ
  clear cZ
  refine Z_aload_n C dX12_init_14 0 rfl ?_
  refine Z_iconst C dX12_init_15 (v := (0 : Int32)) (by decide +kernel) ?_
  refine Y_put C pa_X12_init_16 b5 c6 rfl rfl (Nat.le_of_ble_eq_true rfl) dX12_init_16 (fun ω7 bZ cZ => ?_)
  have b8 := bZ
  clear bZ b5
  have c9 : ω7.2 h = .inr (12, [.int (0 : Int32), .int (0 : Int32), .int (0 : Int32), .null, .null, .null, .null, .null, .null, .null, .null, .int 0, .int 0, .int 0, .int 0, .int 0, .null, .null, .null, .null, .null, .null, .null, .null, .int 0, .int 0, .int 0, .null, .int 0, .null, .int 0, .null, .null, .int 0, .null, .null, .null, .null, .null, .null, .null, .int 0, .null, .null, .null, .int 0, .int 0, .null, .null, .int 0, .int 0, .int 0, .int 0, .int 0, .int 0, .int 0, .null, .null, .null, .null, .null, .null, .null, .null, .null, .null, .null, .null, .null, .int 0, .null, .null, .null, .null, .null]) := cZ
  clear cZ
  refine Z_aload_n C dX12_init_19 0 rfl ?_
  refine Z_bipush C dX12_init_20 (v := (6 : Int32)) (by decide +kernel) ?_
  refine Y_newa (t := 0) (a0 := (6, .inl (fun _ => 0))) C hU b8 (List.mem_of_getElem? (i := 7) rfl) rfl rfl (fun _ _ q => q) (fun _ => rfl) (by decide +kernel) rfl (by decide +kernel) (Nat.le_of_ble_eq_true rfl) (Nat.le_of_ble_eq_true rfl) dX12_init_22 (fun q10 ω11 bZ eZ => ?_)
  have b12 := bZ
  clear bZ b8
  have cZ := eZ.trans c9
  have c13 := cZ
  clear cZ eZ
  show PR M 24 [(0, .ref h)] [.ref q10, .ref h] ω11 (1, 6)
  refine Y_putF C hI pf_X12_init_19 b12 c13 rfl rfl (Nat.le_of_ble_eq_true rfl) dX12_init_24 (fun ω14 bZ cZ => ?_)
  have b15 : BT ω0 ω14 h [(q10, .inl (vC (mV M) 0, (6, .inl (fun _ => 0))))] := bZ
  clear bZ b12
  have c16 : ω14.2 h = .inr (12, [.int (0 : Int32), .int (0 : Int32), .int (0 : Int32), .ref q10, .null, .null, .null, .null, .null, .null, .null, .int 0, .int 0, .int 0, .int 0, .int 0, .null, .null, .null, .null, .null, .null, .null, .null, .int 0, .int 0, .int 0, .null, .int 0, .null, .int 0, .null, .null, .int 0, .null, .null, .null, .null, .null, .null, .null, .int 0, .null, .null, .null, .int 0, .int 0, .null, .null, .int 0, .int 0, .int 0, .int 0, .int 0, .int 0, .int 0, .null, .null, .null, .null, .null, .null, .null, .null, .null, .null, .null, .null, .null, .int 0, .null, .null, .null, .null, .null]) := cZ
  clear cZ
  refine Z_aload_n C dX12_init_27 0 rfl ?_
  refine Z_bipush C dX12_init_28 (v := (6 : Int32)) (by decide +kernel) ?_
  refine Y_newa (t := 0) (a0 := (6, .inl (fun _ => 0))) C hU b15 (List.mem_of_getElem? (i := 7) rfl) rfl rfl (fun _ _ q => q) (fun _ => rfl) (by decide +kernel) rfl (by decide +kernel) (Nat.le_of_ble_eq_true rfl) (Nat.le_of_ble_eq_true rfl) dX12_init_30 (fun q17 ω18 bZ eZ => ?_)
  have b19 := bZ
  clear bZ b15
  have cZ := eZ.trans c16
  have c20 := cZ
  clear cZ eZ
  show PR M 32 [(0, .ref h)] [.ref q17, .ref h] ω18 (2, 12)
  refine Y_putF C hI pf_X12_init_23 b19 c20 rfl rfl (Nat.le_of_ble_eq_true rfl) dX12_init_32 (fun ω21 bZ cZ => ?_)
  have b22 := bZ
  clear bZ b19
  have c23 : ω21.2 h = .inr (12, [.int (0 : Int32), .int (0 : Int32), .int (0 : Int32), .ref q10, .ref q17, .null, .null, .null, .null, .null, .null, .int 0, .int 0, .int 0, .int 0, .int 0, .null, .null, .null, .null, .null, .null, .null, .null, .int 0, .int 0, .int 0, .null, .int 0, .null, .int 0, .null, .null, .int 0, .null, .null, .null, .null, .null, .null, .null, .int 0, .null, .null, .null, .int 0, .int 0, .null, .null, .int 0, .int 0, .int 0, .int 0, .int 0, .int 0, .int 0, .null, .null, .null, .null, .null, .null, .null, .null, .null, .null, .null, .null, .null, .int 0, .null, .null, .null, .null, .null]) := cZ
  clear cZ
  refine Z_aload_n C dX12_init_35 0 rfl ?_
  refine Z_bipush C dX12_init_36 (v := (6 : Int32)) (by decide +kernel) ?_
  refine Y_newa (t := 0) (a0 := (6, .inl (fun _ => 0))) C hU b22 (List.mem_of_getElem? (i := 7) rfl) rfl rfl (fun _ _ q => q) (fun _ => rfl) (by decide +kernel) rfl (by decide +kernel) (Nat.le_of_ble_eq_true rfl) (Nat.le_of_ble_eq_true rfl) dX12_init_38 (fun q24 ω25 bZ eZ => ?_)
  have b26 := bZ
  clear bZ b22
  have cZ := eZ.trans c23
  have c27 := cZ
  clear cZ eZ
  show PR M 40 [(0, .ref h)] [.ref q24, .ref h] ω25 (3, 18)
  refine Y_putF C hI pf_X12_init_26 b26 c27 rfl rfl (Nat.le_of_ble_eq_true rfl) dX12_init_40 (fun ω28 bZ cZ => ?_)
  have b29 := bZ
  clear bZ b26
  have c30 : ω28.2 h = .inr (12, [.int (0 : Int32), .int (0 : Int32), .int (0 : Int32), .ref q10, .ref q17, .ref q24, .null, .null, .null, .null, .null, .int 0, .int 0, .int 0, .int 0, .int 0, .null, .null, .null, .null, .null, .null, .null, .null, .int 0, .int 0, .int 0, .null, .int 0, .null, .int 0, .null, .null, .int 0, .null, .null, .null, .null, .null, .null, .null, .int 0, .null, .null, .null, .int 0, .int 0, .null, .null, .int 0, .int 0, .int 0, .int 0, .int 0, .int 0, .int 0, .null, .null, .null, .null, .null, .null, .null, .null, .null, .null, .null, .null, .null, .int 0, .null, .null, .null, .null, .null]) := cZ
  clear cZ
  refine Z_aload_n C dX12_init_43 0 rfl ?_
  refine Z_bipush C dX12_init_44 (v := (6 : Int32)) (by decide +kernel) ?_
  refine Y_newa (t := 0) (a0 := (6, .inl (fun _ => 0))) C hU b29 (List.mem_of_getElem? (i := 7) rfl) rfl rfl (fun _ _ q => q) (fun _ => rfl) (by decide +kernel) rfl (by decide +kernel) (Nat.le_of_ble_eq_true rfl) (Nat.le_of_ble_eq_true rfl) dX12_init_46 (fun q31 ω32 bZ eZ => ?_)
  have b33 : BT ω0 ω32 h [(q10, .inl (vC (mV M) 0, (6, .inl (fun _ => 0)))), (q17, .inl (vC (mV M) 0, (6, .inl (fun _ => 0)))), (q24, .inl (vC (mV M) 0, (6, .inl (fun _ => 0)))), (q31, .inl (vC (mV M) 0, (6, .inl (fun _ => 0))))] := bZ
  clear bZ b29
  have cZ := eZ.trans c30
  have c34 := cZ
  clear cZ eZ
  show PR M 48 [(0, .ref h)] [.ref q31, .ref h] ω32 (4, 24)
  refine Y_putF C hI pf_X12_init_29 b33 c34 rfl rfl (Nat.le_of_ble_eq_true rfl) dX12_init_48 (fun ω35 bZ cZ => ?_)
  have b36 := bZ
  clear bZ b33
  have c37 : ω35.2 h = .inr (12, [.int (0 : Int32), .int (0 : Int32), .int (0 : Int32), .ref q10, .ref q17, .ref q24, .ref q31, .null, .null, .null, .null, .int 0, .int 0, .int 0, .int 0, .int 0, .null, .null, .null, .null, .null, .null, .null, .null, .int 0, .int 0, .int 0, .null, .int 0, .null, .int 0, .null, .null, .int 0, .null, .null, .null, .null, .null, .null, .null, .int 0, .null, .null, .null, .int 0, .int 0, .null, .null, .int 0, .int 0, .int 0, .int 0, .int 0, .int 0, .int 0, .null, .null, .null, .null, .null, .null, .null, .null, .null, .null, .null, .null, .null, .int 0, .null, .null, .null, .null, .null]) := cZ
  clear cZ
  refine Z_aload_n C dX12_init_51 0 rfl ?_
  refine Z_bipush C dX12_init_52 (v := (6 : Int32)) (by decide +kernel) ?_
  refine Y_newa (t := 0) (a0 := (6, .inl (fun _ => 0))) C hU b36 (List.mem_of_getElem? (i := 7) rfl) rfl rfl (fun _ _ q => q) (fun _ => rfl) (by decide +kernel) rfl (by decide +kernel) (Nat.le_of_ble_eq_true rfl) (Nat.le_of_ble_eq_true rfl) dX12_init_54 (fun q38 ω39 bZ eZ => ?_)
  have b40 := bZ
  clear bZ b36
  have cZ := eZ.trans c37
  have c41 := cZ
  clear cZ eZ
  show PR M 56 [(0, .ref h)] [.ref q38, .ref h] ω39 (5, 30)
  refine Y_putF C hI pf_X12_init_32 b40 c41 rfl rfl (Nat.le_of_ble_eq_true rfl) dX12_init_56 (fun ω42 bZ cZ => ?_)
  have b43 := bZ
  clear bZ b40
  have c44 : ω42.2 h = .inr (12, [.int (0 : Int32), .int (0 : Int32), .int (0 : Int32), .ref q10, .ref q17, .ref q24, .ref q31, .ref q38, .null, .null, .null, .int 0, .int 0, .int 0, .int 0, .int 0, .null, .null, .null, .null, .null, .null, .null, .null, .int 0, .int 0, .int 0, .null, .int 0, .null, .int 0, .null, .null, .int 0, .null, .null, .null, .null, .null, .null, .null, .int 0, .null, .null, .null, .int 0, .int 0, .null, .null, .int 0, .int 0, .int 0, .int 0, .int 0, .int 0, .int 0, .null, .null, .null, .null, .null, .null, .null, .null, .null, .null, .null, .null, .null, .int 0, .null, .null, .null, .null, .null]) := cZ
  clear cZ
  refine Z_aload_n C dX12_init_59 0 rfl ?_
  refine Z_bipush C dX12_init_60 (v := (6 : Int32)) (by decide +kernel) ?_
  refine Y_newa (t := 0) (a0 := (6, .inl (fun _ => 0))) C hU b43 (List.mem_of_getElem? (i := 7) rfl) rfl rfl (fun _ _ q => q) (fun _ => rfl) (by decide +kernel) rfl (by decide +kernel) (Nat.le_of_ble_eq_true rfl) (Nat.le_of_ble_eq_true rfl) dX12_init_62 (fun q45 ω46 bZ eZ => ?_)
  have b47 := bZ
  clear bZ b43
  have cZ := eZ.trans c44
  have c48 := cZ
  clear cZ eZ
  show PR M 64 [(0, .ref h)] [.ref q45, .ref h] ω46 (6, 36)
  refine Y_putF C hI pf_X12_init_35 b47 c48 rfl rfl (Nat.le_of_ble_eq_true rfl) dX12_init_64 (fun ω49 bZ cZ => ?_)
  have b50 : BT ω0 ω49 h [(q10, .inl (vC (mV M) 0, (6, .inl (fun _ => 0)))), (q17, .inl (vC (mV M) 0, (6, .inl (fun _ => 0)))), (q24, .inl (vC (mV M) 0, (6, .inl (fun _ => 0)))), (q31, .inl (vC (mV M) 0, (6, .inl (fun _ => 0)))), (q38, .inl (vC (mV M) 0, (6, .inl (fun _ => 0)))), (q45, .inl (vC (mV M) 0, (6, .inl (fun _ => 0))))] := bZ
  clear bZ b47
  have c51 : ω49.2 h = .inr (12, [.int (0 : Int32), .int (0 : Int32), .int (0 : Int32), .ref q10, .ref q17, .ref q24, .ref q31, .ref q38, .ref q45, .null, .null, .int 0, .int 0, .int 0, .int 0, .int 0, .null, .null, .null, .null, .null, .null, .null, .null, .int 0, .int 0, .int 0, .null, .int 0, .null, .int 0, .null, .null, .int 0, .null, .null, .null, .null, .null, .null, .null, .int 0, .null, .null, .null, .int 0, .int 0, .null, .null, .int 0, .int 0, .int 0, .int 0, .int 0, .int 0, .int 0, .null, .null, .null, .null, .null, .null, .null, .null, .null, .null, .null, .null, .null, .int 0, .null, .null, .null, .null, .null]) := cZ
  clear cZ
  refine Z_aload_n C dX12_init_67 0 rfl ?_
  refine Z_bipush C dX12_init_68 (v := (24 : Int32)) (by decide +kernel) ?_
  refine Y_newa (t := 0) (a0 := (24, .inl (fun _ => 0))) C hU b50 (List.mem_of_getElem? (i := 7) rfl) rfl rfl (fun _ _ q => q) (fun _ => rfl) (by decide +kernel) rfl (by decide +kernel) (Nat.le_of_ble_eq_true rfl) (Nat.le_of_ble_eq_true rfl) dX12_init_70 (fun q52 ω53 bZ eZ => ?_)
  have b54 := bZ
  clear bZ b50
  have cZ := eZ.trans c51
  have c55 := cZ
  clear cZ eZ
  show PR M 72 [(0, .ref h)] [.ref q52, .ref h] ω53 (7, 60)
  refine Y_putF C hI pf_X12_init_38 b54 c55 rfl rfl (Nat.le_of_ble_eq_true rfl) dX12_init_72 (fun ω56 bZ cZ => ?_)
  have b57 := bZ
  clear bZ b54
  have c58 : ω56.2 h = .inr (12, [.int (0 : Int32), .int (0 : Int32), .int (0 : Int32), .ref q10, .ref q17, .ref q24, .ref q31, .ref q38, .ref q45, .ref q52, .null, .int 0, .int 0, .int 0, .int 0, .int 0, .null, .null, .null, .null, .null, .null, .null, .null, .int 0, .int 0, .int 0, .null, .int 0, .null, .int 0, .null, .null, .int 0, .null, .null, .null, .null, .null, .null, .null, .int 0, .null, .null, .null, .int 0, .int 0, .null, .null, .int 0, .int 0, .int 0, .int 0, .int 0, .int 0, .int 0, .null, .null, .null, .null, .null, .null, .null, .null, .null, .null, .null, .null, .null, .int 0, .null, .null, .null, .null, .null]) := cZ
  clear cZ
  refine Z_aload_n C dX12_init_75 0 rfl ?_
  refine Z_bipush C dX12_init_76 (v := (6 : Int32)) (by decide +kernel) ?_
  refine Y_newa (t := 0) (a0 := (6, .inl (fun _ => 0))) C hU b57 (List.mem_of_getElem? (i := 7) rfl) rfl rfl (fun _ _ q => q) (fun _ => rfl) (by decide +kernel) rfl (by decide +kernel) (Nat.le_of_ble_eq_true rfl) (Nat.le_of_ble_eq_true rfl) dX12_init_78 (fun q59 ω60 bZ eZ => ?_)
  have b61 := bZ
  clear bZ b57
  have cZ := eZ.trans c58
  have c62 := cZ
  clear cZ eZ
  show PR M 80 [(0, .ref h)] [.ref q59, .ref h] ω60 (8, 66)
  refine Y_putF C hI pf_X12_init_41 b61 c62 rfl rfl (Nat.le_of_ble_eq_true rfl) dX12_init_80 (fun ω63 bZ cZ => ?_)
  have b64 := bZ
  clear bZ b61
  have c65 : ω63.2 h = .inr (12, [.int (0 : Int32), .int (0 : Int32), .int (0 : Int32), .ref q10, .ref q17, .ref q24, .ref q31, .ref q38, .ref q45, .ref q52, .ref q59, .int 0, .int 0, .int 0, .int 0, .int 0, .null, .null, .null, .null, .null, .null, .null, .null, .int 0, .int 0, .int 0, .null, .int 0, .null, .int 0, .null, .null, .int 0, .null, .null, .null, .null, .null, .null, .null, .int 0, .null, .null, .null, .int 0, .int 0, .null, .null, .int 0, .int 0, .int 0, .int 0, .int 0, .int 0, .int 0, .null, .null, .null, .null, .null, .null, .null, .null, .null, .null, .null, .null, .null, .int 0, .null, .null, .null, .null, .null]) := cZ
  clear cZ
  refine Z_aload_n C dX12_init_83 0 rfl ?_
  refine Z_iconst C dX12_init_84 (v := (0 : Int32)) (by decide +kernel) ?_
  refine Y_put C pa_X12_init_44 b64 c65 rfl rfl (Nat.le_of_ble_eq_true rfl) dX12_init_85 (fun ω66 bZ cZ => ?_)
  have b67 : BT ω0 ω66 h [(q10, .inl (vC (mV M) 0, (6, .inl (fun _ => 0)))), (q17, .inl (vC (mV M) 0, (6, .inl (fun _ => 0)))), (q24, .inl (vC (mV M) 0, (6, .inl (fun _ => 0)))), (q31, .inl (vC (mV M) 0, (6, .inl (fun _ => 0)))), (q38, .inl (vC (mV M) 0, (6, .inl (fun _ => 0)))), (q45, .inl (vC (mV M) 0, (6, .inl (fun _ => 0)))), (q52, .inl (vC (mV M) 0, (24, .inl (fun _ => 0)))), (q59, .inl (vC (mV M) 0, (6, .inl (fun _ => 0))))] := bZ
  clear bZ b64
  have c68 : ω66.2 h = .inr (12, [.int (0 : Int32), .int (0 : Int32), .int (0 : Int32), .ref q10, .ref q17, .ref q24, .ref q31, .ref q38, .ref q45, .ref q52, .ref q59, .int (0 : Int32), .int 0, .int 0, .int 0, .int 0, .null, .null, .null, .null, .null, .null, .null, .null, .int 0, .int 0, .int 0, .null, .int 0, .null, .int 0, .null, .null, .int 0, .null, .null, .null, .null, .null, .null, .null, .int 0, .null, .null, .null, .int 0, .int 0, .null, .null, .int 0, .int 0, .int 0, .int 0, .int 0, .int 0, .int 0, .null, .null, .null, .null, .null, .null, .null, .null, .null, .null, .null, .null, .null, .int 0, .null, .null, .null, .null, .null]) := cZ
  clear cZ
  refine Z_aload_n C dX12_init_88 0 rfl ?_
  refine Z_iconst C dX12_init_89 (v := (-1 : Int32)) (by decide +kernel) ?_
  refine Y_put C pa_X12_init_47 b67 c68 rfl rfl (Nat.le_of_ble_eq_true rfl) dX12_init_90 (fun ω69 bZ cZ => ?_)
  have b70 := bZ
  clear bZ b67
  have c71 : ω69.2 h = .inr (12, [.int (0 : Int32), .int (0 : Int32), .int (0 : Int32), .ref q10, .ref q17, .ref q24, .ref q31, .ref q38, .ref q45, .ref q52, .ref q59, .int (0 : Int32), .int (-1 : Int32), .int 0, .int 0, .int 0, .null, .null, .null, .null, .null, .null, .null, .null, .int 0, .int 0, .int 0, .null, .int 0, .null, .int 0, .null, .null, .int 0, .null, .null, .null, .null, .null, .null, .null, .int 0, .null, .null, .null, .int 0, .int 0, .null, .null, .int 0, .int 0, .int 0, .int 0, .int 0, .int 0, .int 0, .null, .null, .null, .null, .null, .null, .null, .null, .null, .null, .null, .null, .null, .int 0, .null, .null, .null, .null, .null]) := cZ
  clear cZ
  refine Z_aload_n C dX12_init_93 0 rfl ?_
  refine Z_iconst C dX12_init_94 (v := (0 : Int32)) (by decide +kernel) ?_
  refine Y_put C pa_X12_init_50 b70 c71 rfl rfl (Nat.le_of_ble_eq_true rfl) dX12_init_95 (fun ω72 bZ cZ => ?_)
  have b73 := bZ
  clear bZ b70
  have c74 : ω72.2 h = .inr (12, [.int (0 : Int32), .int (0 : Int32), .int (0 : Int32), .ref q10, .ref q17, .ref q24, .ref q31, .ref q38, .ref q45, .ref q52, .ref q59, .int (0 : Int32), .int (-1 : Int32), .int (0 : Int32), .int 0, .int 0, .null, .null, .null, .null, .null, .null, .null, .null, .int 0, .int 0, .int 0, .null, .int 0, .null, .int 0, .null, .null, .int 0, .null, .null, .null, .null, .null, .null, .null, .int 0, .null, .null, .null, .int 0, .int 0, .null, .null, .int 0, .int 0, .int 0, .int 0, .int 0, .int 0, .int 0, .null, .null, .null, .null, .null, .null, .null, .null, .null, .null, .null, .null, .null, .int 0, .null, .null, .null, .null, .null]) := cZ
  clear cZ
  refine Z_aload_n C dX12_init_98 0 rfl ?_
  refine Z_iconst C dX12_init_99 (v := (0 : Int32)) (by decide +kernel) ?_
  refine Y_put C pa_X12_init_53 b73 c74 rfl rfl (Nat.le_of_ble_eq_true rfl) dX12_init_100 (fun ω75 bZ cZ => ?_)
  have b76 := bZ
  clear bZ b73
  have c77 : ω75.2 h = .inr (12, [.int (0 : Int32), .int (0 : Int32), .int (0 : Int32), .ref q10, .ref q17, .ref q24, .ref q31, .ref q38, .ref q45, .ref q52, .ref q59, .int (0 : Int32), .int (-1 : Int32), .int (0 : Int32), .int (0 : Int32), .int 0, .null, .null, .null, .null, .null, .null, .null, .null, .int 0, .int 0, .int 0, .null, .int 0, .null, .int 0, .null, .null, .int 0, .null, .null, .null, .null, .null, .null, .null, .int 0, .null, .null, .null, .int 0, .int 0, .null, .null, .int 0, .int 0, .int 0, .int 0, .int 0, .int 0, .int 0, .null, .null, .null, .null, .null, .null, .null, .null, .null, .null, .null, .null, .null, .int 0, .null, .null, .null, .null, .null]) := cZ
  clear cZ
  refine Z_aload_n C dX12_init_103 0 rfl ?_
  refine Z_iconst C dX12_init_104 (v := (0 : Int32)) (by decide +kernel) ?_
  refine Y_put C pa_X12_init_56 b76 c77 rfl rfl (Nat.le_of_ble_eq_true rfl) dX12_init_105 (fun ω78 bZ cZ => ?_)
  have b79 := bZ
  clear bZ b76
  have c80 : ω78.2 h = .inr (12, [.int (0 : Int32), .int (0 : Int32), .int (0 : Int32), .ref q10, .ref q17, .ref q24, .ref q31, .ref q38, .ref q45, .ref q52, .ref q59, .int (0 : Int32), .int (-1 : Int32), .int (0 : Int32), .int (0 : Int32), .int (0 : Int32), .null, .null, .null, .null, .null, .null, .null, .null, .int 0, .int 0, .int 0, .null, .int 0, .null, .int 0, .null, .null, .int 0, .null, .null, .null, .null, .null, .null, .null, .int 0, .null, .null, .null, .int 0, .int 0, .null, .null, .int 0, .int 0, .int 0, .int 0, .int 0, .int 0, .int 0, .null, .null, .null, .null, .null, .null, .null, .null, .null, .null, .null, .null, .null, .int 0, .null, .null, .null, .null, .null]) := cZ
  clear cZ
  refine Z_aload_n C dX12_init_108 0 rfl ?_
  refine Z_bipush C dX12_init_109 (v := (100 : Int32)) (by decide +kernel) ?_
  refine Y_newa (t := 0) (a0 := (100, .inl (fun _ => 0))) C hU b79 (List.mem_of_getElem? (i := 7) rfl) rfl rfl (fun _ _ q => q) (fun _ => rfl) (by decide +kernel) rfl (by decide +kernel) (Nat.le_of_ble_eq_true rfl) (Nat.le_of_ble_eq_true rfl) dX12_init_111 (fun q81 ω82 bZ eZ => ?_)
  have b83 : BT ω0 ω82 h [(q10, .inl (vC (mV M) 0, (6, .inl (fun _ => 0)))), (q17, .inl (vC (mV M) 0, (6, .inl (fun _ => 0)))), (q24, .inl (vC (mV M) 0, (6, .inl (fun _ => 0)))), (q31, .inl (vC (mV M) 0, (6, .inl (fun _ => 0)))), (q38, .inl (vC (mV M) 0, (6, .inl (fun _ => 0)))), (q45, .inl (vC (mV M) 0, (6, .inl (fun _ => 0)))), (q52, .inl (vC (mV M) 0, (24, .inl (fun _ => 0)))), (q59, .inl (vC (mV M) 0, (6, .inl (fun _ => 0)))), (q81, .inl (vC (mV M) 0, (100, .inl (fun _ => 0))))] := bZ
  clear bZ b79
  have cZ := eZ.trans c80
  have c84 := cZ
  clear cZ eZ
  show PR M 113 [(0, .ref h)] [.ref q81, .ref h] ω82 (9, 166)
  refine Y_putF C hI pf_X12_init_59 b83 c84 rfl rfl (Nat.le_of_ble_eq_true rfl) dX12_init_113 (fun ω85 bZ cZ => ?_)
  have b86 := bZ
  clear bZ b83
  have c87 : ω85.2 h = .inr (12, [.int (0 : Int32), .int (0 : Int32), .int (0 : Int32), .ref q10, .ref q17, .ref q24, .ref q31, .ref q38, .ref q45, .ref q52, .ref q59, .int (0 : Int32), .int (-1 : Int32), .int (0 : Int32), .int (0 : Int32), .int (0 : Int32), .ref q81, .null, .null, .null, .null, .null, .null, .null, .int 0, .int 0, .int 0, .null, .int 0, .null, .int 0, .null, .null, .int 0, .null, .null, .null, .null, .null, .null, .null, .int 0, .null, .null, .null, .int 0, .int 0, .null, .null, .int 0, .int 0, .int 0, .int 0, .int 0, .int 0, .int 0, .null, .null, .null, .null, .null, .null, .null, .null, .null, .null, .null, .null, .null, .int 0, .null, .null, .null, .null, .null]) := cZ
  clear cZ
  refine Z_aload_n C dX12_init_116 0 rfl ?_
  refine Z_bipush C dX12_init_117 (v := (6 : Int32)) (by decide +kernel) ?_
  refine Y_newa (t := 0) (a0 := (6, .inl (fun _ => 0))) C hU b86 (List.mem_of_getElem? (i := 7) rfl) rfl rfl (fun _ _ q => q) (fun _ => rfl) (by decide +kernel) rfl (by decide +kernel) (Nat.le_of_ble_eq_true rfl) (Nat.le_of_ble_eq_true rfl) dX12_init_119 (fun q88 ω89 bZ eZ => ?_)
  have b90 := bZ
  clear bZ b86
  have cZ := eZ.trans c87
  have c91 := cZ
  clear cZ eZ
  show PR M 121 [(0, .ref h)] [.ref q88, .ref h] ω89 (10, 172)
  refine Y_putF C hI pf_X12_init_62 b90 c91 rfl rfl (Nat.le_of_ble_eq_true rfl) dX12_init_121 (fun ω92 bZ cZ => ?_)
  have b93 := bZ
  clear bZ b90
  have c94 : ω92.2 h = .inr (12, [.int (0 : Int32), .int (0 : Int32), .int (0 : Int32), .ref q10, .ref q17, .ref q24, .ref q31, .ref q38, .ref q45, .ref q52, .ref q59, .int (0 : Int32), .int (-1 : Int32), .int (0 : Int32), .int (0 : Int32), .int (0 : Int32), .ref q81, .ref q88, .null, .null, .null, .null, .null, .null, .int 0, .int 0, .int 0, .null, .int 0, .null, .int 0, .null, .null, .int 0, .null, .null, .null, .null, .null, .null, .null, .int 0, .null, .null, .null, .int 0, .int 0, .null, .null, .int 0, .int 0, .int 0, .int 0, .int 0, .int 0, .int 0, .null, .null, .null, .null, .null, .null, .null, .null, .null, .null, .null, .null, .null, .int 0, .null, .null, .null, .null, .null]) := cZ
  clear cZ
  refine Z_aload_n C dX12_init_124 0 rfl ?_
  refine Z_bipush C dX12_init_125 (v := (60 : Int32)) (by decide +kernel) ?_
  refine Y_newa (t := 0) (a0 := (60, .inl (fun _ => 0))) C hU b93 (List.mem_of_getElem? (i := 7) rfl) rfl rfl (fun _ _ q => q) (fun _ => rfl) (by decide +kernel) rfl (by decide +kernel) (Nat.le_of_ble_eq_true rfl) (Nat.le_of_ble_eq_true rfl) dX12_init_127 (fun q95 ω96 bZ eZ => ?_)
  have b97 := bZ
  clear bZ b93
  have cZ := eZ.trans c94
  have c98 := cZ
  clear cZ eZ
  show PR M 129 [(0, .ref h)] [.ref q95, .ref h] ω96 (11, 232)
  refine Y_putF C hI pf_X12_init_65 b97 c98 rfl rfl (Nat.le_of_ble_eq_true rfl) dX12_init_129 (fun ω99 bZ cZ => ?_)
  have b100 : BT ω0 ω99 h [(q10, .inl (vC (mV M) 0, (6, .inl (fun _ => 0)))), (q17, .inl (vC (mV M) 0, (6, .inl (fun _ => 0)))), (q24, .inl (vC (mV M) 0, (6, .inl (fun _ => 0)))), (q31, .inl (vC (mV M) 0, (6, .inl (fun _ => 0)))), (q38, .inl (vC (mV M) 0, (6, .inl (fun _ => 0)))), (q45, .inl (vC (mV M) 0, (6, .inl (fun _ => 0)))), (q52, .inl (vC (mV M) 0, (24, .inl (fun _ => 0)))), (q59, .inl (vC (mV M) 0, (6, .inl (fun _ => 0)))), (q81, .inl (vC (mV M) 0, (100, .inl (fun _ => 0)))), (q88, .inl (vC (mV M) 0, (6, .inl (fun _ => 0)))), (q95, .inl (vC (mV M) 0, (60, .inl (fun _ => 0))))] := bZ
  clear bZ b97
  have c101 : ω99.2 h = .inr (12, [.int (0 : Int32), .int (0 : Int32), .int (0 : Int32), .ref q10, .ref q17, .ref q24, .ref q31, .ref q38, .ref q45, .ref q52, .ref q59, .int (0 : Int32), .int (-1 : Int32), .int (0 : Int32), .int (0 : Int32), .int (0 : Int32), .ref q81, .ref q88, .ref q95, .null, .null, .null, .null, .null, .int 0, .int 0, .int 0, .null, .int 0, .null, .int 0, .null, .null, .int 0, .null, .null, .null, .null, .null, .null, .null, .int 0, .null, .null, .null, .int 0, .int 0, .null, .null, .int 0, .int 0, .int 0, .int 0, .int 0, .int 0, .int 0, .null, .null, .null, .null, .null, .null, .null, .null, .null, .null, .null, .null, .null, .int 0, .null, .null, .null, .null, .null]) := cZ
  clear cZ
  refine Z_aload_n C dX12_init_132 0 rfl ?_
  refine Z_bipush C dX12_init_133 (v := (60 : Int32)) (by decide +kernel) ?_
  refine Y_newa (t := 0) (a0 := (60, .inl (fun _ => 0))) C hU b100 (List.mem_of_getElem? (i := 7) rfl) rfl rfl (fun _ _ q => q) (fun _ => rfl) (by decide +kernel) rfl (by decide +kernel) (Nat.le_of_ble_eq_true rfl) (Nat.le_of_ble_eq_true rfl) dX12_init_135 (fun q102 ω103 bZ eZ => ?_)
  have b104 := bZ
  clear bZ b100
  have cZ := eZ.trans c101
  have c105 := cZ
  clear cZ eZ
  show PR M 137 [(0, .ref h)] [.ref q102, .ref h] ω103 (12, 292)
  refine Y_putF C hI pf_X12_init_68 b104 c105 rfl rfl (Nat.le_of_ble_eq_true rfl) dX12_init_137 (fun ω106 bZ cZ => ?_)
  have b107 := bZ
  clear bZ b104
  have c108 : ω106.2 h = .inr (12, [.int (0 : Int32), .int (0 : Int32), .int (0 : Int32), .ref q10, .ref q17, .ref q24, .ref q31, .ref q38, .ref q45, .ref q52, .ref q59, .int (0 : Int32), .int (-1 : Int32), .int (0 : Int32), .int (0 : Int32), .int (0 : Int32), .ref q81, .ref q88, .ref q95, .ref q102, .null, .null, .null, .null, .int 0, .int 0, .int 0, .null, .int 0, .null, .int 0, .null, .null, .int 0, .null, .null, .null, .null, .null, .null, .null, .int 0, .null, .null, .null, .int 0, .int 0, .null, .null, .int 0, .int 0, .int 0, .int 0, .int 0, .int 0, .int 0, .null, .null, .null, .null, .null, .null, .null, .null, .null, .null, .null, .null, .null, .int 0, .null, .null, .null, .null, .null]) := cZ
  clear cZ
  refine Z_aload_n C dX12_init_140 0 rfl ?_
  refine Z_bipush C dX12_init_141 (v := (60 : Int32)) (by decide +kernel) ?_
  refine Y_newa (t := 0) (a0 := (60, .inl (fun _ => 0))) C hU b107 (List.mem_of_getElem? (i := 7) rfl) rfl rfl (fun _ _ q => q) (fun _ => rfl) (by decide +kernel) rfl (by decide +kernel) (Nat.le_of_ble_eq_true rfl) (Nat.le_of_ble_eq_true rfl) dX12_init_143 (fun q109 ω110 bZ eZ => ?_)
  have b111 := bZ
  clear bZ b107
  have cZ := eZ.trans c108
  have c112 := cZ
  clear cZ eZ
  show PR M 145 [(0, .ref h)] [.ref q109, .ref h] ω110 (13, 352)
  refine Y_putF C hI pf_X12_init_71 b111 c112 rfl rfl (Nat.le_of_ble_eq_true rfl) dX12_init_145 (fun ω113 bZ cZ => ?_)
  have b114 := bZ
  clear bZ b111
  have c115 : ω113.2 h = .inr (12, [.int (0 : Int32), .int (0 : Int32), .int (0 : Int32), .ref q10, .ref q17, .ref q24, .ref q31, .ref q38, .ref q45, .ref q52, .ref q59, .int (0 : Int32), .int (-1 : Int32), .int (0 : Int32), .int (0 : Int32), .int (0 : Int32), .ref q81, .ref q88, .ref q95, .ref q102, .ref q109, .null, .null, .null, .int 0, .int 0, .int 0, .null, .int 0, .null, .int 0, .null, .null, .int 0, .null, .null, .null, .null, .null, .null, .null, .int 0, .null, .null, .null, .int 0, .int 0, .null, .null, .int 0, .int 0, .int 0, .int 0, .int 0, .int 0, .int 0, .null, .null, .null, .null, .null, .null, .null, .null, .null, .null, .null, .null, .null, .int 0, .null, .null, .null, .null, .null]) := cZ
  clear cZ
  refine Z_aload_n C dX12_init_148 0 rfl ?_
  refine Z_bipush C dX12_init_149 (v := (60 : Int32)) (by decide +kernel) ?_
  refine Y_newa (t := 0) (a0 := (60, .inl (fun _ => 0))) C hU b114 (List.mem_of_getElem? (i := 7) rfl) rfl rfl (fun _ _ q => q) (fun _ => rfl) (by decide +kernel) rfl (by decide +kernel) (Nat.le_of_ble_eq_true rfl) (Nat.le_of_ble_eq_true rfl) dX12_init_151 (fun q116 ω117 bZ eZ => ?_)
  have b118 : BT ω0 ω117 h [(q10, .inl (vC (mV M) 0, (6, .inl (fun _ => 0)))), (q17, .inl (vC (mV M) 0, (6, .inl (fun _ => 0)))), (q24, .inl (vC (mV M) 0, (6, .inl (fun _ => 0)))), (q31, .inl (vC (mV M) 0, (6, .inl (fun _ => 0)))), (q38, .inl (vC (mV M) 0, (6, .inl (fun _ => 0)))), (q45, .inl (vC (mV M) 0, (6, .inl (fun _ => 0)))), (q52, .inl (vC (mV M) 0, (24, .inl (fun _ => 0)))), (q59, .inl (vC (mV M) 0, (6, .inl (fun _ => 0)))), (q81, .inl (vC (mV M) 0, (100, .inl (fun _ => 0)))), (q88, .inl (vC (mV M) 0, (6, .inl (fun _ => 0)))), (q95, .inl (vC (mV M) 0, (60, .inl (fun _ => 0)))), (q102, .inl (vC (mV M) 0, (60, .inl (fun _ => 0)))), (q109, .inl (vC (mV M) 0, (60, .inl (fun _ => 0)))), (q116, .inl (vC (mV M) 0, (60, .inl (fun _ => 0))))] := bZ
  clear bZ b114
  have cZ := eZ.trans c115
  have c119 := cZ
  clear cZ eZ
  show PR M 153 [(0, .ref h)] [.ref q116, .ref h] ω117 (14, 412)
  refine Y_putF C hI pf_X12_init_74 b118 c119 rfl rfl (Nat.le_of_ble_eq_true rfl) dX12_init_153 (fun ω120 bZ cZ => ?_)
  have b121 := bZ
  clear bZ b118
  have c122 : ω120.2 h = .inr (12, [.int (0 : Int32), .int (0 : Int32), .int (0 : Int32), .ref q10, .ref q17, .ref q24, .ref q31, .ref q38, .ref q45, .ref q52, .ref q59, .int (0 : Int32), .int (-1 : Int32), .int (0 : Int32), .int (0 : Int32), .int (0 : Int32), .ref q81, .ref q88, .ref q95, .ref q102, .ref q109, .ref q116, .null, .null, .int 0, .int 0, .int 0, .null, .int 0, .null, .int 0, .null, .null, .int 0, .null, .null, .null, .null, .null, .null, .null, .int 0, .null, .null, .null, .int 0, .int 0, .null, .null, .int 0, .int 0, .int 0, .int 0, .int 0, .int 0, .int 0, .null, .null, .null, .null, .null, .null, .null, .null, .null, .null, .null, .null, .null, .int 0, .null, .null, .null, .null, .null]) := cZ
  clear cZ
  refine Z_aload_n C dX12_init_156 0 rfl ?_
  refine Z_sipush C dX12_init_157 (v := (600 : Int32)) (by decide +kernel) ?_
  refine Y_newa (t := 0) (a0 := (600, .inl (fun _ => 0))) C hU b121 (List.mem_of_getElem? (i := 7) rfl) rfl rfl (fun _ _ q => q) (fun _ => rfl) (by decide +kernel) rfl (by decide +kernel) (Nat.le_of_ble_eq_true rfl) (Nat.le_of_ble_eq_true rfl) dX12_init_160 (fun q123 ω124 bZ eZ => ?_)
  have b125 := bZ
  clear bZ b121
  have cZ := eZ.trans c122
  have c126 := cZ
  clear cZ eZ
  show PR M 162 [(0, .ref h)] [.ref q123, .ref h] ω124 (15, 1012)
  refine Y_putF C hI pf_X12_init_77 b125 c126 rfl rfl (Nat.le_of_ble_eq_true rfl) dX12_init_162 (fun ω127 bZ cZ => ?_)
  have b128 := bZ
  clear bZ b125
  have c129 : ω127.2 h = .inr (12, [.int (0 : Int32), .int (0 : Int32), .int (0 : Int32), .ref q10, .ref q17, .ref q24, .ref q31, .ref q38, .ref q45, .ref q52, .ref q59, .int (0 : Int32), .int (-1 : Int32), .int (0 : Int32), .int (0 : Int32), .int (0 : Int32), .ref q81, .ref q88, .ref q95, .ref q102, .ref q109, .ref q116, .ref q123, .null, .int 0, .int 0, .int 0, .null, .int 0, .null, .int 0, .null, .null, .int 0, .null, .null, .null, .null, .null, .null, .null, .int 0, .null, .null, .null, .int 0, .int 0, .null, .null, .int 0, .int 0, .int 0, .int 0, .int 0, .int 0, .int 0, .null, .null, .null, .null, .null, .null, .null, .null, .null, .null, .null, .null, .null, .int 0, .null, .null, .null, .null, .null]) := cZ
  clear cZ
  refine Z_aload_n C dX12_init_165 0 rfl ?_
  refine Z_bipush C dX12_init_166 (v := (101 : Int32)) (by decide +kernel) ?_
  refine Y_newa (t := 0) (a0 := (101, .inl (fun _ => 0))) C hU b128 (List.mem_of_getElem? (i := 7) rfl) rfl rfl (fun _ _ q => q) (fun _ => rfl) (by decide +kernel) rfl (by decide +kernel) (Nat.le_of_ble_eq_true rfl) (Nat.le_of_ble_eq_true rfl) dX12_init_168 (fun q130 ω131 bZ eZ => ?_)
  have b132 := bZ
  clear bZ b128
  have cZ := eZ.trans c129
  have c133 := cZ
  clear cZ eZ
  show PR M 170 [(0, .ref h)] [.ref q130, .ref h] ω131 (16, 1113)
  refine Y_putF C hI pf_X12_init_80 b132 c133 rfl rfl (Nat.le_of_ble_eq_true rfl) dX12_init_170 (fun ω134 bZ cZ => ?_)
  have b135 : BT ω0 ω134 h [(q10, .inl (vC (mV M) 0, (6, .inl (fun _ => 0)))), (q17, .inl (vC (mV M) 0, (6, .inl (fun _ => 0)))), (q24, .inl (vC (mV M) 0, (6, .inl (fun _ => 0)))), (q31, .inl (vC (mV M) 0, (6, .inl (fun _ => 0)))), (q38, .inl (vC (mV M) 0, (6, .inl (fun _ => 0)))), (q45, .inl (vC (mV M) 0, (6, .inl (fun _ => 0)))), (q52, .inl (vC (mV M) 0, (24, .inl (fun _ => 0)))), (q59, .inl (vC (mV M) 0, (6, .inl (fun _ => 0)))), (q81, .inl (vC (mV M) 0, (100, .inl (fun _ => 0)))), (q88, .inl (vC (mV M) 0, (6, .inl (fun _ => 0)))), (q95, .inl (vC (mV M) 0, (60, .inl (fun _ => 0)))), (q102, .inl (vC (mV M) 0, (60, .inl (fun _ => 0)))), (q109, .inl (vC (mV M) 0, (60, .inl (fun _ => 0)))), (q116, .inl (vC (mV M) 0, (60, .inl (fun _ => 0)))), (q123, .inl (vC (mV M) 0, (600, .inl (fun _ => 0)))), (q130, .inl (vC (mV M) 0, (101, .inl (fun _ => 0))))] := bZ
  clear bZ b132
  have c136 : ω134.2 h = .inr (12, [.int (0 : Int32), .int (0 : Int32), .int (0 : Int32), .ref q10, .ref q17, .ref q24, .ref q31, .ref q38, .ref q45, .ref q52, .ref q59, .int (0 : Int32), .int (-1 : Int32), .int (0 : Int32), .int (0 : Int32), .int (0 : Int32), .ref q81, .ref q88, .ref q95, .ref q102, .ref q109, .ref q116, .ref q123, .ref q130, .int 0, .int 0, .int 0, .null, .int 0, .null, .int 0, .null, .null, .int 0, .null, .null, .null, .null, .null, .null, .null, .int 0, .null, .null, .null, .int 0, .int 0, .null, .null, .int 0, .int 0, .int 0, .int 0, .int 0, .int 0, .int 0, .null, .null, .null, .null, .null, .null, .null, .null, .null, .null, .null, .null, .null, .int 0, .null, .null, .null, .null, .null]) := cZ
  clear cZ
  refine Z_aload_n C dX12_init_173 0 rfl ?_
  refine Z_iconst C dX12_init_174 (v := (0 : Int32)) (by decide +kernel) ?_
  refine Y_put C pa_X12_init_83 b135 c136 rfl rfl (Nat.le_of_ble_eq_true rfl) dX12_init_175 (fun ω137 bZ cZ => ?_)
  have b138 := bZ
  clear bZ b135
  have c139 : ω137.2 h = .inr (12, [.int (0 : Int32), .int (0 : Int32), .int (0 : Int32), .ref q10, .ref q17, .ref q24, .ref q31, .ref q38, .ref q45, .ref q52, .ref q59, .int (0 : Int32), .int (-1 : Int32), .int (0 : Int32), .int (0 : Int32), .int (0 : Int32), .ref q81, .ref q88, .ref q95, .ref q102, .ref q109, .ref q116, .ref q123, .ref q130, .int (0 : Int32), .int 0, .int 0, .null, .int 0, .null, .int 0, .null, .null, .int 0, .null, .null, .null, .null, .null, .null, .null, .int 0, .null, .null, .null, .int 0, .int 0, .null, .null, .int 0, .int 0, .int 0, .int 0, .int 0, .int 0, .int 0, .null, .null, .null, .null, .null, .null, .null, .null, .null, .null, .null, .null, .null, .int 0, .null, .null, .null, .null, .null]) := cZ
  clear cZ
  refine Z_aload_n C dX12_init_178 0 rfl ?_
  refine Z_iconst C dX12_init_179 (v := (0 : Int32)) (by decide +kernel) ?_
  refine Y_put C pa_X12_init_86 b138 c139 rfl rfl (Nat.le_of_ble_eq_true rfl) dX12_init_180 (fun ω140 bZ cZ => ?_)
  have b141 := bZ
  clear bZ b138
  have c142 : ω140.2 h = .inr (12, [.int (0 : Int32), .int (0 : Int32), .int (0 : Int32), .ref q10, .ref q17, .ref q24, .ref q31, .ref q38, .ref q45, .ref q52, .ref q59, .int (0 : Int32), .int (-1 : Int32), .int (0 : Int32), .int (0 : Int32), .int (0 : Int32), .ref q81, .ref q88, .ref q95, .ref q102, .ref q109, .ref q116, .ref q123, .ref q130, .int (0 : Int32), .int (0 : Int32), .int 0, .null, .int 0, .null, .int 0, .null, .null, .int 0, .null, .null, .null, .null, .null, .null, .null, .int 0, .null, .null, .null, .int 0, .int 0, .null, .null, .int 0, .int 0, .int 0, .int 0, .int 0, .int 0, .int 0, .null, .null, .null, .null, .null, .null, .null, .null, .null, .null, .null, .null, .null, .int 0, .null, .null, .null, .null, .null]) := cZ
  clear cZ
  refine Z_aload_n C dX12_init_183 0 rfl ?_
  refine Z_iconst C dX12_init_184 (v := (0 : Int32)) (by decide +kernel) ?_
  refine Y_put C pa_X12_init_89 b141 c142 rfl rfl (Nat.le_of_ble_eq_true rfl) dX12_init_185 (fun ω143 bZ cZ => ?_)
  have b144 := bZ
  clear bZ b141
  have c145 : ω143.2 h = .inr (12, [.int (0 : Int32), .int (0 : Int32), .int (0 : Int32), .ref q10, .ref q17, .ref q24, .ref q31, .ref q38, .ref q45, .ref q52, .ref q59, .int (0 : Int32), .int (-1 : Int32), .int (0 : Int32), .int (0 : Int32), .int (0 : Int32), .ref q81, .ref q88, .ref q95, .ref q102, .ref q109, .ref q116, .ref q123, .ref q130, .int (0 : Int32), .int (0 : Int32), .int (0 : Int32), .null, .int 0, .null, .int 0, .null, .null, .int 0, .null, .null, .null, .null, .null, .null, .null, .int 0, .null, .null, .null, .int 0, .int 0, .null, .null, .int 0, .int 0, .int 0, .int 0, .int 0, .int 0, .int 0, .null, .null, .null, .null, .null, .null, .null, .null, .null, .null, .null, .null, .null, .int 0, .null, .null, .null, .null, .null]) := cZ
  clear cZ
  refine Z_aload_n C dX12_init_188 0 rfl ?_
  refine Z_bipush C dX12_init_189 (v := (19 : Int32)) (by decide +kernel) ?_
  refine Y_newa (t := 0) (a0 := (19, .inl (fun _ => 0))) C hU b144 (List.mem_of_getElem? (i := 7) rfl) rfl rfl (fun _ _ q => q) (fun _ => rfl) (by decide +kernel) rfl (by decide +kernel) (Nat.le_of_ble_eq_true rfl) (Nat.le_of_ble_eq_true rfl) dX12_init_191 (fun q146 ω147 bZ eZ => ?_)
  have b148 := bZ
  clear bZ b144
  have cZ := eZ.trans c145
  have c149 := cZ
  clear cZ eZ
  show PR M 193 [(0, .ref h)] [.ref q146, .ref h] ω147 (17, 1132)
  refine Z_dup C dX12_init_193 rfl ?_
  refine Z_iconst C dX12_init_194 (v := (0 : Int32)) (by decide +kernel) ?_
  refine Z_bipush C dX12_init_195 (v := (102 : Int32)) (by decide +kernel) ?_
  refine Y_iast (k := 16) C b148 rfl (vp_in_iff.mpr ⟨by decide +kernel, by decide +kernel⟩) dX12_init_197 (fun ω150 bZ eZ => ?_)
  have b151 : BT ω0 ω150 h [(q10, .inl (vC (mV M) 0, (6, .inl (fun _ => 0)))), (q17, .inl (vC (mV M) 0, (6, .inl (fun _ => 0)))), (q24, .inl (vC (mV M) 0, (6, .inl (fun _ => 0)))), (q31, .inl (vC (mV M) 0, (6, .inl (fun _ => 0)))), (q38, .inl (vC (mV M) 0, (6, .inl (fun _ => 0)))), (q45, .inl (vC (mV M) 0, (6, .inl (fun _ => 0)))), (q52, .inl (vC (mV M) 0, (24, .inl (fun _ => 0)))), (q59, .inl (vC (mV M) 0, (6, .inl (fun _ => 0)))), (q81, .inl (vC (mV M) 0, (100, .inl (fun _ => 0)))), (q88, .inl (vC (mV M) 0, (6, .inl (fun _ => 0)))), (q95, .inl (vC (mV M) 0, (60, .inl (fun _ => 0)))), (q102, .inl (vC (mV M) 0, (60, .inl (fun _ => 0)))), (q109, .inl (vC (mV M) 0, (60, .inl (fun _ => 0)))), (q116, .inl (vC (mV M) 0, (60, .inl (fun _ => 0)))), (q123, .inl (vC (mV M) 0, (600, .inl (fun _ => 0)))), (q130, .inl (vC (mV M) 0, (101, .inl (fun _ => 0)))), (q146, .inl (vC (mV M) 0, (19, .inl (upd (fun _ => 0) 0 (102 : Int32)))))] := bZ
  clear bZ b148
  have c152 := eZ.trans c149
  clear eZ
  refine Z_dup C dX12_init_198 rfl ?_
  refine Z_iconst C dX12_init_199 (v := (1 : Int32)) (by decide +kernel) ?_
  refine Z_bipush C dX12_init_200 (v := (97 : Int32)) (by decide +kernel) ?_
  refine Y_iast (k := 16) C b151 rfl (vp_in_iff.mpr ⟨by decide +kernel, by decide +kernel⟩) dX12_init_202 (fun ω153 bZ eZ => ?_)
  have b154 : BT ω0 ω153 h [(q10, .inl (vC (mV M) 0, (6, .inl (fun _ => 0)))), (q17, .inl (vC (mV M) 0, (6, .inl (fun _ => 0)))), (q24, .inl (vC (mV M) 0, (6, .inl (fun _ => 0)))), (q31, .inl (vC (mV M) 0, (6, .inl (fun _ => 0)))), (q38, .inl (vC (mV M) 0, (6, .inl (fun _ => 0)))), (q45, .inl (vC (mV M) 0, (6, .inl (fun _ => 0)))), (q52, .inl (vC (mV M) 0, (24, .inl (fun _ => 0)))), (q59, .inl (vC (mV M) 0, (6, .inl (fun _ => 0)))), (q81, .inl (vC (mV M) 0, (100, .inl (fun _ => 0)))), (q88, .inl (vC (mV M) 0, (6, .inl (fun _ => 0)))), (q95, .inl (vC (mV M) 0, (60, .inl (fun _ => 0)))), (q102, .inl (vC (mV M) 0, (60, .inl (fun _ => 0)))), (q109, .inl (vC (mV M) 0, (60, .inl (fun _ => 0)))), (q116, .inl (vC (mV M) 0, (60, .inl (fun _ => 0)))), (q123, .inl (vC (mV M) 0, (600, .inl (fun _ => 0)))), (q130, .inl (vC (mV M) 0, (101, .inl (fun _ => 0)))), (q146, .inl (vC (mV M) 0, (19, .inl (upd (upd (fun _ => 0) 0 (102 : Int32)) 1 (97 : Int32)))))] := bZ
  clear bZ b151
  have c155 := eZ.trans c152
  clear eZ
  refine Z_dup C dX12_init_203 rfl ?_
  refine Z_iconst C dX12_init_204 (v := (2 : Int32)) (by decide +kernel) ?_
  refine Z_bipush C dX12_init_205 (v := (115 : Int32)) (by decide +kernel) ?_
  refine Y_iast (k := 16) C b154 rfl (vp_in_iff.mpr ⟨by decide +kernel, by decide +kernel⟩) dX12_init_207 (fun ω156 bZ eZ => ?_)
  have b157 : BT ω0 ω156 h [(q10, .inl (vC (mV M) 0, (6, .inl (fun _ => 0)))), (q17, .inl (vC (mV M) 0, (6, .inl (fun _ => 0)))), (q24, .inl (vC (mV M) 0, (6, .inl (fun _ => 0)))), (q31, .inl (vC (mV M) 0, (6, .inl (fun _ => 0)))), (q38, .inl (vC (mV M) 0, (6, .inl (fun _ => 0)))), (q45, .inl (vC (mV M) 0, (6, .inl (fun _ => 0)))), (q52, .inl (vC (mV M) 0, (24, .inl (fun _ => 0)))), (q59, .inl (vC (mV M) 0, (6, .inl (fun _ => 0)))), (q81, .inl (vC (mV M) 0, (100, .inl (fun _ => 0)))), (q88, .inl (vC (mV M) 0, (6, .inl (fun _ => 0)))), (q95, .inl (vC (mV M) 0, (60, .inl (fun _ => 0)))), (q102, .inl (vC (mV M) 0, (60, .inl (fun _ => 0)))), (q109, .inl (vC (mV M) 0, (60, .inl (fun _ => 0)))), (q116, .inl (vC (mV M) 0, (60, .inl (fun _ => 0)))), (q123, .inl (vC (mV M) 0, (600, .inl (fun _ => 0)))), (q130, .inl (vC (mV M) 0, (101, .inl (fun _ => 0)))), (q146, .inl (vC (mV M) 0, (19, .inl (upd (upd (upd (fun _ => 0) 0 (102 : Int32)) 1 (97 : Int32)) 2 (115 : Int32)))))] := bZ
  clear bZ b154
  have c158 := eZ.trans c155
  clear eZ
  refine Z_dup C dX12_init_208 rfl ?_
  refine Z_iconst C dX12_init_209 (v := (3 : Int32)) (by decide +kernel) ?_
  refine Z_bipush C dX12_init_210 (v := (116 : Int32)) (by decide +kernel) ?_
  refine Y_iast (k := 16) C b157 rfl (vp_in_iff.mpr ⟨by decide +kernel, by decide +kernel⟩) dX12_init_212 (fun ω159 bZ eZ => ?_)
  have b160 : BT ω0 ω159 h [(q10, .inl (vC (mV M) 0, (6, .inl (fun _ => 0)))), (q17, .inl (vC (mV M) 0, (6, .inl (fun _ => 0)))), (q24, .inl (vC (mV M) 0, (6, .inl (fun _ => 0)))), (q31, .inl (vC (mV M) 0, (6, .inl (fun _ => 0)))), (q38, .inl (vC (mV M) 0, (6, .inl (fun _ => 0)))), (q45, .inl (vC (mV M) 0, (6, .inl (fun _ => 0)))), (q52, .inl (vC (mV M) 0, (24, .inl (fun _ => 0)))), (q59, .inl (vC (mV M) 0, (6, .inl (fun _ => 0)))), (q81, .inl (vC (mV M) 0, (100, .inl (fun _ => 0)))), (q88, .inl (vC (mV M) 0, (6, .inl (fun _ => 0)))), (q95, .inl (vC (mV M) 0, (60, .inl (fun _ => 0)))), (q102, .inl (vC (mV M) 0, (60, .inl (fun _ => 0)))), (q109, .inl (vC (mV M) 0, (60, .inl (fun _ => 0)))), (q116, .inl (vC (mV M) 0, (60, .inl (fun _ => 0)))), (q123, .inl (vC (mV M) 0, (600, .inl (fun _ => 0)))), (q130, .inl (vC (mV M) 0, (101, .inl (fun _ => 0)))), (q146, .inl (vC (mV M) 0, (19, .inl (upd (upd (upd (upd (fun _ => 0) 0 (102 : Int32)) 1 (97 : Int32)) 2 (115 : Int32)) 3 (116 : Int32)))))] := bZ
  clear bZ b157
  have c161 := eZ.trans c158
  clear eZ
  refine Z_dup C dX12_init_213 rfl ?_
  refine Z_iconst C dX12_init_214 (v := (4 : Int32)) (by decide +kernel) ?_
  refine Z_bipush C dX12_init_215 (v := (115 : Int32)) (by decide +kernel) ?_
  refine Y_iast (k := 16) C b160 rfl (vp_in_iff.mpr ⟨by decide +kernel, by decide +kernel⟩) dX12_init_217 (fun ω162 bZ eZ => ?_)
  have b163 : BT ω0 ω162 h [(q10, .inl (vC (mV M) 0, (6, .inl (fun _ => 0)))), (q17, .inl (vC (mV M) 0, (6, .inl (fun _ => 0)))), (q24, .inl (vC (mV M) 0, (6, .inl (fun _ => 0)))), (q31, .inl (vC (mV M) 0, (6, .inl (fun _ => 0)))), (q38, .inl (vC (mV M) 0, (6, .inl (fun _ => 0)))), (q45, .inl (vC (mV M) 0, (6, .inl (fun _ => 0)))), (q52, .inl (vC (mV M) 0, (24, .inl (fun _ => 0)))), (q59, .inl (vC (mV M) 0, (6, .inl (fun _ => 0)))), (q81, .inl (vC (mV M) 0, (100, .inl (fun _ => 0)))), (q88, .inl (vC (mV M) 0, (6, .inl (fun _ => 0)))), (q95, .inl (vC (mV M) 0, (60, .inl (fun _ => 0)))), (q102, .inl (vC (mV M) 0, (60, .inl (fun _ => 0)))), (q109, .inl (vC (mV M) 0, (60, .inl (fun _ => 0)))), (q116, .inl (vC (mV M) 0, (60, .inl (fun _ => 0)))), (q123, .inl (vC (mV M) 0, (600, .inl (fun _ => 0)))), (q130, .inl (vC (mV M) 0, (101, .inl (fun _ => 0)))), (q146, .inl (vC (mV M) 0, (19, .inl (upd (upd (upd (upd (upd (fun _ => 0) 0 (102 : Int32)) 1 (97 : Int32)) 2 (115 : Int32)) 3 (116 : Int32)) 4 (115 : Int32)))))] := bZ
  clear bZ b160
  have c164 := eZ.trans c161
  clear eZ
  refine Z_dup C dX12_init_218 rfl ?_
  refine Z_iconst C dX12_init_219 (v := (5 : Int32)) (by decide +kernel) ?_
  refine Z_bipush C dX12_init_220 (v := (108 : Int32)) (by decide +kernel) ?_
  refine Y_iast (k := 16) C b163 rfl (vp_in_iff.mpr ⟨by decide +kernel, by decide +kernel⟩) dX12_init_222 (fun ω165 bZ eZ => ?_)
  have b166 : BT ω0 ω165 h [(q10, .inl (vC (mV M) 0, (6, .inl (fun _ => 0)))), (q17, .inl (vC (mV M) 0, (6, .inl (fun _ => 0)))), (q24, .inl (vC (mV M) 0, (6, .inl (fun _ => 0)))), (q31, .inl (vC (mV M) 0, (6, .inl (fun _ => 0)))), (q38, .inl (vC (mV M) 0, (6, .inl (fun _ => 0)))), (q45, .inl (vC (mV M) 0, (6, .inl (fun _ => 0)))), (q52, .inl (vC (mV M) 0, (24, .inl (fun _ => 0)))), (q59, .inl (vC (mV M) 0, (6, .inl (fun _ => 0)))), (q81, .inl (vC (mV M) 0, (100, .inl (fun _ => 0)))), (q88, .inl (vC (mV M) 0, (6, .inl (fun _ => 0)))), (q95, .inl (vC (mV M) 0, (60, .inl (fun _ => 0)))), (q102, .inl (vC (mV M) 0, (60, .inl (fun _ => 0)))), (q109, .inl (vC (mV M) 0, (60, .inl (fun _ => 0)))), (q116, .inl (vC (mV M) 0, (60, .inl (fun _ => 0)))), (q123, .inl (vC (mV M) 0, (600, .inl (fun _ => 0)))), (q130, .inl (vC (mV M) 0, (101, .inl (fun _ => 0)))), (q146, .inl (vC (mV M) 0, (19, .inl (upd (upd (upd (upd (upd (upd (fun _ => 0) 0 (102 : Int32)) 1 (97 : Int32)) 2 (115 : Int32)) 3 (116 : Int32)) 4 (115 : Int32)) 5 (108 : Int32)))))] := bZ
  clear bZ b163
  have c167 := eZ.trans c164
  clear eZ
  refine Z_dup C dX12_init_223 rfl ?_
  refine Z_bipush C dX12_init_224 (v := (6 : Int32)) (by decide +kernel) ?_
  refine Z_bipush C dX12_init_226 (v := (111 : Int32)) (by decide +kernel) ?_
  refine Y_iast (k := 16) C b166 rfl (vp_in_iff.mpr ⟨by decide +kernel, by decide +kernel⟩) dX12_init_228 (fun ω168 bZ eZ => ?_)
  have b169 : BT ω0 ω168 h [(q10, .inl (vC (mV M) 0, (6, .inl (fun _ => 0)))), (q17, .inl (vC (mV M) 0, (6, .inl (fun _ => 0)))), (q24, .inl (vC (mV M) 0, (6, .inl (fun _ => 0)))), (q31, .inl (vC (mV M) 0, (6, .inl (fun _ => 0)))), (q38, .inl (vC (mV M) 0, (6, .inl (fun _ => 0)))), (q45, .inl (vC (mV M) 0, (6, .inl (fun _ => 0)))), (q52, .inl (vC (mV M) 0, (24, .inl (fun _ => 0)))), (q59, .inl (vC (mV M) 0, (6, .inl (fun _ => 0)))), (q81, .inl (vC (mV M) 0, (100, .inl (fun _ => 0)))), (q88, .inl (vC (mV M) 0, (6, .inl (fun _ => 0)))), (q95, .inl (vC (mV M) 0, (60, .inl (fun _ => 0)))), (q102, .inl (vC (mV M) 0, (60, .inl (fun _ => 0)))), (q109, .inl (vC (mV M) 0, (60, .inl (fun _ => 0)))), (q116, .inl (vC (mV M) 0, (60, .inl (fun _ => 0)))), (q123, .inl (vC (mV M) 0, (600, .inl (fun _ => 0)))), (q130, .inl (vC (mV M) 0, (101, .inl (fun _ => 0)))), (q146, .inl (vC (mV M) 0, (19, .inl (upd (upd (upd (upd (upd (upd (upd (fun _ => 0) 0 (102 : Int32)) 1 (97 : Int32)) 2 (115 : Int32)) 3 (116 : Int32)) 4 (115 : Int32)) 5 (108 : Int32)) 6 (111 : Int32)))))] := bZ
  clear bZ b166
  have c170 := eZ.trans c167
  clear eZ
  refine Z_dup C dX12_init_229 rfl ?_
  refine Z_bipush C dX12_init_230 (v := (7 : Int32)) (by decide +kernel) ?_
  refine Z_bipush C dX12_init_232 (v := (119 : Int32)) (by decide +kernel) ?_
  refine Y_iast (k := 16) C b169 rfl (vp_in_iff.mpr ⟨by decide +kernel, by decide +kernel⟩) dX12_init_234 (fun ω171 bZ eZ => ?_)
  have b172 : BT ω0 ω171 h [(q10, .inl (vC (mV M) 0, (6, .inl (fun _ => 0)))), (q17, .inl (vC (mV M) 0, (6, .inl (fun _ => 0)))), (q24, .inl (vC (mV M) 0, (6, .inl (fun _ => 0)))), (q31, .inl (vC (mV M) 0, (6, .inl (fun _ => 0)))), (q38, .inl (vC (mV M) 0, (6, .inl (fun _ => 0)))), (q45, .inl (vC (mV M) 0, (6, .inl (fun _ => 0)))), (q52, .inl (vC (mV M) 0, (24, .inl (fun _ => 0)))), (q59, .inl (vC (mV M) 0, (6, .inl (fun _ => 0)))), (q81, .inl (vC (mV M) 0, (100, .inl (fun _ => 0)))), (q88, .inl (vC (mV M) 0, (6, .inl (fun _ => 0)))), (q95, .inl (vC (mV M) 0, (60, .inl (fun _ => 0)))), (q102, .inl (vC (mV M) 0, (60, .inl (fun _ => 0)))), (q109, .inl (vC (mV M) 0, (60, .inl (fun _ => 0)))), (q116, .inl (vC (mV M) 0, (60, .inl (fun _ => 0)))), (q123, .inl (vC (mV M) 0, (600, .inl (fun _ => 0)))), (q130, .inl (vC (mV M) 0, (101, .inl (fun _ => 0)))), (q146, .inl (vC (mV M) 0, (19, .inl (upd (upd (upd (upd (upd (upd (upd (upd (fun _ => 0) 0 (102 : Int32)) 1 (97 : Int32)) 2 (115 : Int32)) 3 (116 : Int32)) 4 (115 : Int32)) 5 (108 : Int32)) 6 (111 : Int32)) 7 (119 : Int32)))))] := bZ
  clear bZ b169
  have c173 := eZ.trans c170
  clear eZ
  refine Z_dup C dX12_init_235 rfl ?_
  refine Z_bipush C dX12_init_236 (v := (8 : Int32)) (by decide +kernel) ?_
  refine Z_bipush C dX12_init_238 (v := (103 : Int32)) (by decide +kernel) ?_
  refine Y_iast (k := 16) C b172 rfl (vp_in_iff.mpr ⟨by decide +kernel, by decide +kernel⟩) dX12_init_240 (fun ω174 bZ eZ => ?_)
  have b175 : BT ω0 ω174 h [(q10, .inl (vC (mV M) 0, (6, .inl (fun _ => 0)))), (q17, .inl (vC (mV M) 0, (6, .inl (fun _ => 0)))), (q24, .inl (vC (mV M) 0, (6, .inl (fun _ => 0)))), (q31, .inl (vC (mV M) 0, (6, .inl (fun _ => 0)))), (q38, .inl (vC (mV M) 0, (6, .inl (fun _ => 0)))), (q45, .inl (vC (mV M) 0, (6, .inl (fun _ => 0)))), (q52, .inl (vC (mV M) 0, (24, .inl (fun _ => 0)))), (q59, .inl (vC (mV M) 0, (6, .inl (fun _ => 0)))), (q81, .inl (vC (mV M) 0, (100, .inl (fun _ => 0)))), (q88, .inl (vC (mV M) 0, (6, .inl (fun _ => 0)))), (q95, .inl (vC (mV M) 0, (60, .inl (fun _ => 0)))), (q102, .inl (vC (mV M) 0, (60, .inl (fun _ => 0)))), (q109, .inl (vC (mV M) 0, (60, .inl (fun _ => 0)))), (q116, .inl (vC (mV M) 0, (60, .inl (fun _ => 0)))), (q123, .inl (vC (mV M) 0, (600, .inl (fun _ => 0)))), (q130, .inl (vC (mV M) 0, (101, .inl (fun _ => 0)))), (q146, .inl (vC (mV M) 0, (19, .inl (upd (upd (upd (upd (upd (upd (upd (upd (upd (fun _ => 0) 0 (102 : Int32)) 1 (97 : Int32)) 2 (115 : Int32)) 3 (116 : Int32)) 4 (115 : Int32)) 5 (108 : Int32)) 6 (111 : Int32)) 7 (119 : Int32)) 8 (103 : Int32)))))] := bZ
  clear bZ b172
  have c176 := eZ.trans c173
  clear eZ
  refine Z_dup C dX12_init_241 rfl ?_
  refine Z_bipush C dX12_init_242 (v := (9 : Int32)) (by decide +kernel) ?_
  refine Z_bipush C dX12_init_244 (v := (97 : Int32)) (by decide +kernel) ?_
  refine Y_iast (k := 16) C b175 rfl (vp_in_iff.mpr ⟨by decide +kernel, by decide +kernel⟩) dX12_init_246 (fun ω177 bZ eZ => ?_)
  have b178 : BT ω0 ω177 h [(q10, .inl (vC (mV M) 0, (6, .inl (fun _ => 0)))), (q17, .inl (vC (mV M) 0, (6, .inl (fun _ => 0)))), (q24, .inl (vC (mV M) 0, (6, .inl (fun _ => 0)))), (q31, .inl (vC (mV M) 0, (6, .inl (fun _ => 0)))), (q38, .inl (vC (mV M) 0, (6, .inl (fun _ => 0)))), (q45, .inl (vC (mV M) 0, (6, .inl (fun _ => 0)))), (q52, .inl (vC (mV M) 0, (24, .inl (fun _ => 0)))), (q59, .inl (vC (mV M) 0, (6, .inl (fun _ => 0)))), (q81, .inl (vC (mV M) 0, (100, .inl (fun _ => 0)))), (q88, .inl (vC (mV M) 0, (6, .inl (fun _ => 0)))), (q95, .inl (vC (mV M) 0, (60, .inl (fun _ => 0)))), (q102, .inl (vC (mV M) 0, (60, .inl (fun _ => 0)))), (q109, .inl (vC (mV M) 0, (60, .inl (fun _ => 0)))), (q116, .inl (vC (mV M) 0, (60, .inl (fun _ => 0)))), (q123, .inl (vC (mV M) 0, (600, .inl (fun _ => 0)))), (q130, .inl (vC (mV M) 0, (101, .inl (fun _ => 0)))), (q146, .inl (vC (mV M) 0, (19, .inl (upd (upd (upd (upd (upd (upd (upd (upd (upd (upd (fun _ => 0) 0 (102 : Int32)) 1 (97 : Int32)) 2 (115 : Int32)) 3 (116 : Int32)) 4 (115 : Int32)) 5 (108 : Int32)) 6 (111 : Int32)) 7 (119 : Int32)) 8 (103 : Int32)) 9 (97 : Int32)))))] := bZ
  clear bZ b175
  have c179 := eZ.trans c176
  clear eZ
  refine Z_dup C dX12_init_247 rfl ?_
  refine Z_bipush C dX12_init_248 (v := (10 : Int32)) (by decide +kernel) ?_
  refine Z_bipush C dX12_init_250 (v := (112 : Int32)) (by decide +kernel) ?_
  refine Y_iast (k := 16) C b178 rfl (vp_in_iff.mpr ⟨by decide +kernel, by decide +kernel⟩) dX12_init_252 (fun ω180 bZ eZ => ?_)
  have b181 : BT ω0 ω180 h [(q10, .inl (vC (mV M) 0, (6, .inl (fun _ => 0)))), (q17, .inl (vC (mV M) 0, (6, .inl (fun _ => 0)))), (q24, .inl (vC (mV M) 0, (6, .inl (fun _ => 0)))), (q31, .inl (vC (mV M) 0, (6, .inl (fun _ => 0)))), (q38, .inl (vC (mV M) 0, (6, .inl (fun _ => 0)))), (q45, .inl (vC (mV M) 0, (6, .inl (fun _ => 0)))), (q52, .inl (vC (mV M) 0, (24, .inl (fun _ => 0)))), (q59, .inl (vC (mV M) 0, (6, .inl (fun _ => 0)))), (q81, .inl (vC (mV M) 0, (100, .inl (fun _ => 0)))), (q88, .inl (vC (mV M) 0, (6, .inl (fun _ => 0)))), (q95, .inl (vC (mV M) 0, (60, .inl (fun _ => 0)))), (q102, .inl (vC (mV M) 0, (60, .inl (fun _ => 0)))), (q109, .inl (vC (mV M) 0, (60, .inl (fun _ => 0)))), (q116, .inl (vC (mV M) 0, (60, .inl (fun _ => 0)))), (q123, .inl (vC (mV M) 0, (600, .inl (fun _ => 0)))), (q130, .inl (vC (mV M) 0, (101, .inl (fun _ => 0)))), (q146, .inl (vC (mV M) 0, (19, .inl (upd (upd (upd (upd (upd (upd (upd (upd (upd (upd (upd (fun _ => 0) 0 (102 : Int32)) 1 (97 : Int32)) 2 (115 : Int32)) 3 (116 : Int32)) 4 (115 : Int32)) 5 (108 : Int32)) 6 (111 : Int32)) 7 (119 : Int32)) 8 (103 : Int32)) 9 (97 : Int32)) 10 (112 : Int32)))))] := bZ
  clear bZ b178
  have c182 := eZ.trans c179
  clear eZ
  refine Z_dup C dX12_init_253 rfl ?_
  refine Z_bipush C dX12_init_254 (v := (11 : Int32)) (by decide +kernel) ?_
  refine Z_bipush C dX12_init_256 (v := (116 : Int32)) (by decide +kernel) ?_
  refine Y_iast (k := 16) C b181 rfl (vp_in_iff.mpr ⟨by decide +kernel, by decide +kernel⟩) dX12_init_258 (fun ω183 bZ eZ => ?_)
  have b184 : BT ω0 ω183 h [(q10, .inl (vC (mV M) 0, (6, .inl (fun _ => 0)))), (q17, .inl (vC (mV M) 0, (6, .inl (fun _ => 0)))), (q24, .inl (vC (mV M) 0, (6, .inl (fun _ => 0)))), (q31, .inl (vC (mV M) 0, (6, .inl (fun _ => 0)))), (q38, .inl (vC (mV M) 0, (6, .inl (fun _ => 0)))), (q45, .inl (vC (mV M) 0, (6, .inl (fun _ => 0)))), (q52, .inl (vC (mV M) 0, (24, .inl (fun _ => 0)))), (q59, .inl (vC (mV M) 0, (6, .inl (fun _ => 0)))), (q81, .inl (vC (mV M) 0, (100, .inl (fun _ => 0)))), (q88, .inl (vC (mV M) 0, (6, .inl (fun _ => 0)))), (q95, .inl (vC (mV M) 0, (60, .inl (fun _ => 0)))), (q102, .inl (vC (mV M) 0, (60, .inl (fun _ => 0)))), (q109, .inl (vC (mV M) 0, (60, .inl (fun _ => 0)))), (q116, .inl (vC (mV M) 0, (60, .inl (fun _ => 0)))), (q123, .inl (vC (mV M) 0, (600, .inl (fun _ => 0)))), (q130, .inl (vC (mV M) 0, (101, .inl (fun _ => 0)))), (q146, .inl (vC (mV M) 0, (19, .inl (upd (upd (upd (upd (upd (upd (upd (upd (upd (upd (upd (upd (fun _ => 0) 0 (102 : Int32)) 1 (97 : Int32)) 2 (115 : Int32)) 3 (116 : Int32)) 4 (115 : Int32)) 5 (108 : Int32)) 6 (111 : Int32)) 7 (119 : Int32)) 8 (103 : Int32)) 9 (97 : Int32)) 10 (112 : Int32)) 11 (116 : Int32)))))] := bZ
  clear bZ b181
  have c185 := eZ.trans c182
  clear eZ
  refine Z_dup C dX12_init_259 rfl ?_
  refine Z_bipush C dX12_init_260 (v := (12 : Int32)) (by decide +kernel) ?_
  refine Z_bipush C dX12_init_262 (v := (105 : Int32)) (by decide +kernel) ?_
  refine Y_iast (k := 16) C b184 rfl (vp_in_iff.mpr ⟨by decide +kernel, by decide +kernel⟩) dX12_init_264 (fun ω186 bZ eZ => ?_)
  have b187 : BT ω0 ω186 h [(q10, .inl (vC (mV M) 0, (6, .inl (fun _ => 0)))), (q17, .inl (vC (mV M) 0, (6, .inl (fun _ => 0)))), (q24, .inl (vC (mV M) 0, (6, .inl (fun _ => 0)))), (q31, .inl (vC (mV M) 0, (6, .inl (fun _ => 0)))), (q38, .inl (vC (mV M) 0, (6, .inl (fun _ => 0)))), (q45, .inl (vC (mV M) 0, (6, .inl (fun _ => 0)))), (q52, .inl (vC (mV M) 0, (24, .inl (fun _ => 0)))), (q59, .inl (vC (mV M) 0, (6, .inl (fun _ => 0)))), (q81, .inl (vC (mV M) 0, (100, .inl (fun _ => 0)))), (q88, .inl (vC (mV M) 0, (6, .inl (fun _ => 0)))), (q95, .inl (vC (mV M) 0, (60, .inl (fun _ => 0)))), (q102, .inl (vC (mV M) 0, (60, .inl (fun _ => 0)))), (q109, .inl (vC (mV M) 0, (60, .inl (fun _ => 0)))), (q116, .inl (vC (mV M) 0, (60, .inl (fun _ => 0)))), (q123, .inl (vC (mV M) 0, (600, .inl (fun _ => 0)))), (q130, .inl (vC (mV M) 0, (101, .inl (fun _ => 0)))), (q146, .inl (vC (mV M) 0, (19, .inl (upd (upd (upd (upd (upd (upd (upd (upd (upd (upd (upd (upd (upd (fun _ => 0) 0 (102 : Int32)) 1 (97 : Int32)) 2 (115 : Int32)) 3 (116 : Int32)) 4 (115 : Int32)) 5 (108 : Int32)) 6 (111 : Int32)) 7 (119 : Int32)) 8 (103 : Int32)) 9 (97 : Int32)) 10 (112 : Int32)) 11 (116 : Int32)) 12 (105 : Int32)))))] := bZ
  clear bZ b184
  have c188 := eZ.trans c185
  clear eZ
  refine Z_dup C dX12_init_265 rfl ?_
  refine Z_bipush C dX12_init_266 (v := (13 : Int32)) (by decide +kernel) ?_
  refine Z_bipush C dX12_init_268 (v := (114 : Int32)) (by decide +kernel) ?_
  refine Y_iast (k := 16) C b187 rfl (vp_in_iff.mpr ⟨by decide +kernel, by decide +kernel⟩) dX12_init_270 (fun ω189 bZ eZ => ?_)
  have b190 : BT ω0 ω189 h [(q10, .inl (vC (mV M) 0, (6, .inl (fun _ => 0)))), (q17, .inl (vC (mV M) 0, (6, .inl (fun _ => 0)))), (q24, .inl (vC (mV M) 0, (6, .inl (fun _ => 0)))), (q31, .inl (vC (mV M) 0, (6, .inl (fun _ => 0)))), (q38, .inl (vC (mV M) 0, (6, .inl (fun _ => 0)))), (q45, .inl (vC (mV M) 0, (6, .inl (fun _ => 0)))), (q52, .inl (vC (mV M) 0, (24, .inl (fun _ => 0)))), (q59, .inl (vC (mV M) 0, (6, .inl (fun _ => 0)))), (q81, .inl (vC (mV M) 0, (100, .inl (fun _ => 0)))), (q88, .inl (vC (mV M) 0, (6, .inl (fun _ => 0)))), (q95, .inl (vC (mV M) 0, (60, .inl (fun _ => 0)))), (q102, .inl (vC (mV M) 0, (60, .inl (fun _ => 0)))), (q109, .inl (vC (mV M) 0, (60, .inl (fun _ => 0)))), (q116, .inl (vC (mV M) 0, (60, .inl (fun _ => 0)))), (q123, .inl (vC (mV M) 0, (600, .inl (fun _ => 0)))), (q130, .inl (vC (mV M) 0, (101, .inl (fun _ => 0)))), (q146, .inl (vC (mV M) 0, (19, .inl (upd (upd (upd (upd (upd (upd (upd (upd (upd (upd (upd (upd (upd (upd (fun _ => 0) 0 (102 : Int32)) 1 (97 : Int32)) 2 (115 : Int32)) 3 (116 : Int32)) 4 (115 : Int32)) 5 (108 : Int32)) 6 (111 : Int32)) 7 (119 : Int32)) 8 (103 : Int32)) 9 (97 : Int32)) 10 (112 : Int32)) 11 (116 : Int32)) 12 (105 : Int32)) 13 (114 : Int32)))))] := bZ
  clear bZ b187
  have c191 := eZ.trans c188
  clear eZ
  refine Z_dup C dX12_init_271 rfl ?_
  refine Z_bipush C dX12_init_272 (v := (14 : Int32)) (by decide +kernel) ?_
  refine Z_bipush C dX12_init_274 (v := (101 : Int32)) (by decide +kernel) ?_
  refine Y_iast (k := 16) C b190 rfl (vp_in_iff.mpr ⟨by decide +kernel, by decide +kernel⟩) dX12_init_276 (fun ω192 bZ eZ => ?_)
  have b193 : BT ω0 ω192 h [(q10, .inl (vC (mV M) 0, (6, .inl (fun _ => 0)))), (q17, .inl (vC (mV M) 0, (6, .inl (fun _ => 0)))), (q24, .inl (vC (mV M) 0, (6, .inl (fun _ => 0)))), (q31, .inl (vC (mV M) 0, (6, .inl (fun _ => 0)))), (q38, .inl (vC (mV M) 0, (6, .inl (fun _ => 0)))), (q45, .inl (vC (mV M) 0, (6, .inl (fun _ => 0)))), (q52, .inl (vC (mV M) 0, (24, .inl (fun _ => 0)))), (q59, .inl (vC (mV M) 0, (6, .inl (fun _ => 0)))), (q81, .inl (vC (mV M) 0, (100, .inl (fun _ => 0)))), (q88, .inl (vC (mV M) 0, (6, .inl (fun _ => 0)))), (q95, .inl (vC (mV M) 0, (60, .inl (fun _ => 0)))), (q102, .inl (vC (mV M) 0, (60, .inl (fun _ => 0)))), (q109, .inl (vC (mV M) 0, (60, .inl (fun _ => 0)))), (q116, .inl (vC (mV M) 0, (60, .inl (fun _ => 0)))), (q123, .inl (vC (mV M) 0, (600, .inl (fun _ => 0)))), (q130, .inl (vC (mV M) 0, (101, .inl (fun _ => 0)))), (q146, .inl (vC (mV M) 0, (19, .inl (upd (upd (upd (upd (upd (upd (upd (upd (upd (upd (upd (upd (upd (upd (upd (fun _ => 0) 0 (102 : Int32)) 1 (97 : Int32)) 2 (115 : Int32)) 3 (116 : Int32)) 4 (115 : Int32)) 5 (108 : Int32)) 6 (111 : Int32)) 7 (119 : Int32)) 8 (103 : Int32)) 9 (97 : Int32)) 10 (112 : Int32)) 11 (116 : Int32)) 12 (105 : Int32)) 13 (114 : Int32)) 14 (101 : Int32)))))] := bZ
  clear bZ b190
  have c194 := eZ.trans c191
  clear eZ
  refine Z_dup C dX12_init_277 rfl ?_
  refine Z_bipush C dX12_init_278 (v := (15 : Int32)) (by decide +kernel) ?_
  refine Z_bipush C dX12_init_280 (v := (108 : Int32)) (by decide +kernel) ?_
  refine Y_iast (k := 16) C b193 rfl (vp_in_iff.mpr ⟨by decide +kernel, by decide +kernel⟩) dX12_init_282 (fun ω195 bZ eZ => ?_)
  have b196 : BT ω0 ω195 h [(q10, .inl (vC (mV M) 0, (6, .inl (fun _ => 0)))), (q17, .inl (vC (mV M) 0, (6, .inl (fun _ => 0)))), (q24, .inl (vC (mV M) 0, (6, .inl (fun _ => 0)))), (q31, .inl (vC (mV M) 0, (6, .inl (fun _ => 0)))), (q38, .inl (vC (mV M) 0, (6, .inl (fun _ => 0)))), (q45, .inl (vC (mV M) 0, (6, .inl (fun _ => 0)))), (q52, .inl (vC (mV M) 0, (24, .inl (fun _ => 0)))), (q59, .inl (vC (mV M) 0, (6, .inl (fun _ => 0)))), (q81, .inl (vC (mV M) 0, (100, .inl (fun _ => 0)))), (q88, .inl (vC (mV M) 0, (6, .inl (fun _ => 0)))), (q95, .inl (vC (mV M) 0, (60, .inl (fun _ => 0)))), (q102, .inl (vC (mV M) 0, (60, .inl (fun _ => 0)))), (q109, .inl (vC (mV M) 0, (60, .inl (fun _ => 0)))), (q116, .inl (vC (mV M) 0, (60, .inl (fun _ => 0)))), (q123, .inl (vC (mV M) 0, (600, .inl (fun _ => 0)))), (q130, .inl (vC (mV M) 0, (101, .inl (fun _ => 0)))), (q146, .inl (vC (mV M) 0, (19, .inl (upd (upd (upd (upd (upd (upd (upd (upd (upd (upd (upd (upd (upd (upd (upd (upd (fun _ => 0) 0 (102 : Int32)) 1 (97 : Int32)) 2 (115 : Int32)) 3 (116 : Int32)) 4 (115 : Int32)) 5 (108 : Int32)) 6 (111 : Int32)) 7 (119 : Int32)) 8 (103 : Int32)) 9 (97 : Int32)) 10 (112 : Int32)) 11 (116 : Int32)) 12 (105 : Int32)) 13 (114 : Int32)) 14 (101 : Int32)) 15 (108 : Int32)))))] := bZ
  clear bZ b193
  have c197 := eZ.trans c194
  clear eZ
  refine Z_dup C dX12_init_283 rfl ?_
  refine Z_bipush C dX12_init_284 (v := (16 : Int32)) (by decide +kernel) ?_
  refine Z_bipush C dX12_init_286 (v := (111 : Int32)) (by decide +kernel) ?_
  refine Y_iast (k := 16) C b196 rfl (vp_in_iff.mpr ⟨by decide +kernel, by decide +kernel⟩) dX12_init_288 (fun ω198 bZ eZ => ?_)
  have b199 : BT ω0 ω198 h [(q10, .inl (vC (mV M) 0, (6, .inl (fun _ => 0)))), (q17, .inl (vC (mV M) 0, (6, .inl (fun _ => 0)))), (q24, .inl (vC (mV M) 0, (6, .inl (fun _ => 0)))), (q31, .inl (vC (mV M) 0, (6, .inl (fun _ => 0)))), (q38, .inl (vC (mV M) 0, (6, .inl (fun _ => 0)))), (q45, .inl (vC (mV M) 0, (6, .inl (fun _ => 0)))), (q52, .inl (vC (mV M) 0, (24, .inl (fun _ => 0)))), (q59, .inl (vC (mV M) 0, (6, .inl (fun _ => 0)))), (q81, .inl (vC (mV M) 0, (100, .inl (fun _ => 0)))), (q88, .inl (vC (mV M) 0, (6, .inl (fun _ => 0)))), (q95, .inl (vC (mV M) 0, (60, .inl (fun _ => 0)))), (q102, .inl (vC (mV M) 0, (60, .inl (fun _ => 0)))), (q109, .inl (vC (mV M) 0, (60, .inl (fun _ => 0)))), (q116, .inl (vC (mV M) 0, (60, .inl (fun _ => 0)))), (q123, .inl (vC (mV M) 0, (600, .inl (fun _ => 0)))), (q130, .inl (vC (mV M) 0, (101, .inl (fun _ => 0)))), (q146, .inl (vC (mV M) 0, (19, .inl (upd (upd (upd (upd (upd (upd (upd (upd (upd (upd (upd (upd (upd (upd (upd (upd (upd (fun _ => 0) 0 (102 : Int32)) 1 (97 : Int32)) 2 (115 : Int32)) 3 (116 : Int32)) 4 (115 : Int32)) 5 (108 : Int32)) 6 (111 : Int32)) 7 (119 : Int32)) 8 (103 : Int32)) 9 (97 : Int32)) 10 (112 : Int32)) 11 (116 : Int32)) 12 (105 : Int32)) 13 (114 : Int32)) 14 (101 : Int32)) 15 (108 : Int32)) 16 (111 : Int32)))))] := bZ
  clear bZ b196
  have c200 := eZ.trans c197
  clear eZ
  refine Z_dup C dX12_init_289 rfl ?_
  refine Z_bipush C dX12_init_290 (v := (17 : Int32)) (by decide +kernel) ?_
  refine Z_bipush C dX12_init_292 (v := (110 : Int32)) (by decide +kernel) ?_
  refine Y_iast (k := 16) C b199 rfl (vp_in_iff.mpr ⟨by decide +kernel, by decide +kernel⟩) dX12_init_294 (fun ω201 bZ eZ => ?_)
  have b202 : BT ω0 ω201 h [(q10, .inl (vC (mV M) 0, (6, .inl (fun _ => 0)))), (q17, .inl (vC (mV M) 0, (6, .inl (fun _ => 0)))), (q24, .inl (vC (mV M) 0, (6, .inl (fun _ => 0)))), (q31, .inl (vC (mV M) 0, (6, .inl (fun _ => 0)))), (q38, .inl (vC (mV M) 0, (6, .inl (fun _ => 0)))), (q45, .inl (vC (mV M) 0, (6, .inl (fun _ => 0)))), (q52, .inl (vC (mV M) 0, (24, .inl (fun _ => 0)))), (q59, .inl (vC (mV M) 0, (6, .inl (fun _ => 0)))), (q81, .inl (vC (mV M) 0, (100, .inl (fun _ => 0)))), (q88, .inl (vC (mV M) 0, (6, .inl (fun _ => 0)))), (q95, .inl (vC (mV M) 0, (60, .inl (fun _ => 0)))), (q102, .inl (vC (mV M) 0, (60, .inl (fun _ => 0)))), (q109, .inl (vC (mV M) 0, (60, .inl (fun _ => 0)))), (q116, .inl (vC (mV M) 0, (60, .inl (fun _ => 0)))), (q123, .inl (vC (mV M) 0, (600, .inl (fun _ => 0)))), (q130, .inl (vC (mV M) 0, (101, .inl (fun _ => 0)))), (q146, .inl (vC (mV M) 0, (19, .inl (upd (upd (upd (upd (upd (upd (upd (upd (upd (upd (upd (upd (upd (upd (upd (upd (upd (upd (fun _ => 0) 0 (102 : Int32)) 1 (97 : Int32)) 2 (115 : Int32)) 3 (116 : Int32)) 4 (115 : Int32)) 5 (108 : Int32)) 6 (111 : Int32)) 7 (119 : Int32)) 8 (103 : Int32)) 9 (97 : Int32)) 10 (112 : Int32)) 11 (116 : Int32)) 12 (105 : Int32)) 13 (114 : Int32)) 14 (101 : Int32)) 15 (108 : Int32)) 16 (111 : Int32)) 17 (110 : Int32)))))] := bZ
  clear bZ b199
  have c203 := eZ.trans c200
  clear eZ
  refine Z_dup C dX12_init_295 rfl ?_
  refine Z_bipush C dX12_init_296 (v := (18 : Int32)) (by decide +kernel) ?_
  refine Z_bipush C dX12_init_298 (v := (103 : Int32)) (by decide +kernel) ?_
  refine Y_iast (k := 16) C b202 rfl (vp_in_iff.mpr ⟨by decide +kernel, by decide +kernel⟩) dX12_init_300 (fun ω204 bZ eZ => ?_)
  have b205 : BT ω0 ω204 h [(q10, .inl (vC (mV M) 0, (6, .inl (fun _ => 0)))), (q17, .inl (vC (mV M) 0, (6, .inl (fun _ => 0)))), (q24, .inl (vC (mV M) 0, (6, .inl (fun _ => 0)))), (q31, .inl (vC (mV M) 0, (6, .inl (fun _ => 0)))), (q38, .inl (vC (mV M) 0, (6, .inl (fun _ => 0)))), (q45, .inl (vC (mV M) 0, (6, .inl (fun _ => 0)))), (q52, .inl (vC (mV M) 0, (24, .inl (fun _ => 0)))), (q59, .inl (vC (mV M) 0, (6, .inl (fun _ => 0)))), (q81, .inl (vC (mV M) 0, (100, .inl (fun _ => 0)))), (q88, .inl (vC (mV M) 0, (6, .inl (fun _ => 0)))), (q95, .inl (vC (mV M) 0, (60, .inl (fun _ => 0)))), (q102, .inl (vC (mV M) 0, (60, .inl (fun _ => 0)))), (q109, .inl (vC (mV M) 0, (60, .inl (fun _ => 0)))), (q116, .inl (vC (mV M) 0, (60, .inl (fun _ => 0)))), (q123, .inl (vC (mV M) 0, (600, .inl (fun _ => 0)))), (q130, .inl (vC (mV M) 0, (101, .inl (fun _ => 0)))), (q146, .inl (vC (mV M) 0, (19, .inl (upd (upd (upd (upd (upd (upd (upd (upd (upd (upd (upd (upd (upd (upd (upd (upd (upd (upd (upd (fun _ => 0) 0 (102 : Int32)) 1 (97 : Int32)) 2 (115 : Int32)) 3 (116 : Int32)) 4 (115 : Int32)) 5 (108 : Int32)) 6 (111 : Int32)) 7 (119 : Int32)) 8 (103 : Int32)) 9 (97 : Int32)) 10 (112 : Int32)) 11 (116 : Int32)) 12 (105 : Int32)) 13 (114 : Int32)) 14 (101 : Int32)) 15 (108 : Int32)) 16 (111 : Int32)) 17 (110 : Int32)) 18 (103 : Int32)))))] := bZ
  clear bZ b202
  have c206 := eZ.trans c203
  clear eZ
  refine Y_putF C hI pf_X12_init_92 b205 c206 rfl rfl (Nat.le_of_ble_eq_true rfl) dX12_init_301 (fun ω207 bZ cZ => ?_)
  have b208 := bZ
  clear bZ b205
  have c209 : ω207.2 h = .inr (12, [.int (0 : Int32), .int (0 : Int32), .int (0 : Int32), .ref q10, .ref q17, .ref q24, .ref q31, .ref q38, .ref q45, .ref q52, .ref q59, .int (0 : Int32), .int (-1 : Int32), .int (0 : Int32), .int (0 : Int32), .int (0 : Int32), .ref q81, .ref q88, .ref q95, .ref q102, .ref q109, .ref q116, .ref q123, .ref q130, .int (0 : Int32), .int (0 : Int32), .int (0 : Int32), .ref q146, .int 0, .null, .int 0, .null, .null, .int 0, .null, .null, .null, .null, .null, .null, .null, .int 0, .null, .null, .null, .int 0, .int 0, .null, .null, .int 0, .int 0, .int 0, .int 0, .int 0, .int 0, .int 0, .null, .null, .null, .null, .null, .null, .null, .null, .null, .null, .null, .null, .null, .int 0, .null, .null, .null, .null, .null]) := cZ
  clear cZ
  refine Z_aload_n C dX12_init_304 0 rfl ?_
  refine Z_iconst C dX12_init_305 (v := (-1 : Int32)) (by decide +kernel) ?_
  refine Y_put C pa_X12_init_95 b208 c209 rfl rfl (Nat.le_of_ble_eq_true rfl) dX12_init_306 (fun ω210 bZ cZ => ?_)
  have b211 : BT ω0 ω210 h [(q10, .inl (vC (mV M) 0, (6, .inl (fun _ => 0)))), (q17, .inl (vC (mV M) 0, (6, .inl (fun _ => 0)))), (q24, .inl (vC (mV M) 0, (6, .inl (fun _ => 0)))), (q31, .inl (vC (mV M) 0, (6, .inl (fun _ => 0)))), (q38, .inl (vC (mV M) 0, (6, .inl (fun _ => 0)))), (q45, .inl (vC (mV M) 0, (6, .inl (fun _ => 0)))), (q52, .inl (vC (mV M) 0, (24, .inl (fun _ => 0)))), (q59, .inl (vC (mV M) 0, (6, .inl (fun _ => 0)))), (q81, .inl (vC (mV M) 0, (100, .inl (fun _ => 0)))), (q88, .inl (vC (mV M) 0, (6, .inl (fun _ => 0)))), (q95, .inl (vC (mV M) 0, (60, .inl (fun _ => 0)))), (q102, .inl (vC (mV M) 0, (60, .inl (fun _ => 0)))), (q109, .inl (vC (mV M) 0, (60, .inl (fun _ => 0)))), (q116, .inl (vC (mV M) 0, (60, .inl (fun _ => 0)))), (q123, .inl (vC (mV M) 0, (600, .inl (fun _ => 0)))), (q130, .inl (vC (mV M) 0, (101, .inl (fun _ => 0)))), (q146, .inl (vC (mV M) 0, (19, .inl (upd (upd (upd (upd (upd (upd (upd (upd (upd (upd (upd (upd (upd (upd (upd (upd (upd (upd (upd (fun _ => 0) 0 (102 : Int32)) 1 (97 : Int32)) 2 (115 : Int32)) 3 (116 : Int32)) 4 (115 : Int32)) 5 (108 : Int32)) 6 (111 : Int32)) 7 (119 : Int32)) 8 (103 : Int32)) 9 (97 : Int32)) 10 (112 : Int32)) 11 (116 : Int32)) 12 (105 : Int32)) 13 (114 : Int32)) 14 (101 : Int32)) 15 (108 : Int32)) 16 (111 : Int32)) 17 (110 : Int32)) 18 (103 : Int32)))))] := bZ
  clear bZ b208
  have c212 : ω210.2 h = .inr (12, [.int (0 : Int32), .int (0 : Int32), .int (0 : Int32), .ref q10, .ref q17, .ref q24, .ref q31, .ref q38, .ref q45, .ref q52, .ref q59, .int (0 : Int32), .int (-1 : Int32), .int (0 : Int32), .int (0 : Int32), .int (0 : Int32), .ref q81, .ref q88, .ref q95, .ref q102, .ref q109, .ref q116, .ref q123, .ref q130, .int (0 : Int32), .int (0 : Int32), .int (0 : Int32), .ref q146, .int (-1 : Int32), .null, .int 0, .null, .null, .int 0, .null, .null, .null, .null, .null, .null, .null, .int 0, .null, .null, .null, .int 0, .int 0, .null, .null, .int 0, .int 0, .int 0, .int 0, .int 0, .int 0, .int 0, .null, .null, .null, .null, .null, .null, .null, .null, .null, .null, .null, .null, .null, .int 0, .null, .null, .null, .null, .null]) := cZ
  clear cZ
  refine Z_aload_n C dX12_init_309 0 rfl ?_
  refine Z_bipush C dX12_init_310 (v := (100 : Int32)) (by decide +kernel) ?_
  refine Y_newa (t := 2) (a0 := (100, .inl (fun _ => 0))) C hU b211 (List.mem_of_getElem? (i := 34) rfl) rfl rfl (fun _ _ q => q) (fun _ => rfl) (by decide +kernel) rfl (by decide +kernel) (Nat.le_of_ble_eq_true rfl) (Nat.le_of_ble_eq_true rfl) dX12_init_312 (fun q213 ω214 bZ eZ => ?_)
  have b215 := bZ
  clear bZ b211
  have cZ := eZ.trans c212
  have c216 := cZ
  clear cZ eZ
  show PR M 314 [(0, .ref h)] [.ref q213, .ref h] ω214 (18, 1232)
  refine Y_putF C hI pf_X12_init_98 b215 c216 rfl rfl (Nat.le_of_ble_eq_true rfl) dX12_init_314 (fun ω217 bZ cZ => ?_)
  have b218 := bZ
  clear bZ b215
  have c219 : ω217.2 h = .inr (12, [.int (0 : Int32), .int (0 : Int32), .int (0 : Int32), .ref q10, .ref q17, .ref q24, .ref q31, .ref q38, .ref q45, .ref q52, .ref q59, .int (0 : Int32), .int (-1 : Int32), .int (0 : Int32), .int (0 : Int32), .int (0 : Int32), .ref q81, .ref q88, .ref q95, .ref q102, .ref q109, .ref q116, .ref q123, .ref q130, .int (0 : Int32), .int (0 : Int32), .int (0 : Int32), .ref q146, .int (-1 : Int32), .ref q213, .int 0, .null, .null, .int 0, .null, .null, .null, .null, .null, .null, .null, .int 0, .null, .null, .null, .int 0, .int 0, .null, .null, .int 0, .int 0, .int 0, .int 0, .int 0, .int 0, .int 0, .null, .null, .null, .null, .null, .null, .null, .null, .null, .null, .null, .null, .null, .int 0, .null, .null, .null, .null, .null]) := cZ
  clear cZ
  refine Z_aload_n C dX12_init_317 0 rfl ?_
  refine Z_iconst C dX12_init_318 (v := (0 : Int32)) (by decide +kernel) ?_
  refine Y_put C pa_X12_init_102 b218 c219 rfl rfl (Nat.le_of_ble_eq_true rfl) dX12_init_319 (fun ω220 bZ cZ => ?_)
  have b221 := bZ
  clear bZ b218
  have c222 : ω220.2 h = .inr (12, [.int (0 : Int32), .int (0 : Int32), .int (0 : Int32), .ref q10, .ref q17, .ref q24, .ref q31, .ref q38, .ref q45, .ref q52, .ref q59, .int (0 : Int32), .int (-1 : Int32), .int (0 : Int32), .int (0 : Int32), .int (0 : Int32), .ref q81, .ref q88, .ref q95, .ref q102, .ref q109, .ref q116, .ref q123, .ref q130, .int (0 : Int32), .int (0 : Int32), .int (0 : Int32), .ref q146, .int (-1 : Int32), .ref q213, .int (0 : Int32), .null, .null, .int 0, .null, .null, .null, .null, .null, .null, .null, .int 0, .null, .null, .null, .int 0, .int 0, .null, .null, .int 0, .int 0, .int 0, .int 0, .int 0, .int 0, .int 0, .null, .null, .null, .null, .null, .null, .null, .null, .null, .null, .null, .null, .null, .int 0, .null, .null, .null, .null, .null]) := cZ
  clear cZ
  refine Z_aload_n C dX12_init_322 0 rfl ?_
  refine Z_bipush C dX12_init_323 (v := (6 : Int32)) (by decide +kernel) ?_
  refine Y_newa (t := 0) (a0 := (6, .inl (fun _ => 0))) C hU b221 (List.mem_of_getElem? (i := 7) rfl) rfl rfl (fun _ _ q => q) (fun _ => rfl) (by decide +kernel) rfl (by decide +kernel) (Nat.le_of_ble_eq_true rfl) (Nat.le_of_ble_eq_true rfl) dX12_init_325 (fun q223 ω224 bZ eZ => ?_)
  have b225 := bZ
  clear bZ b221
  have cZ := eZ.trans c222
  have c226 := cZ
  clear cZ eZ
  show PR M 327 [(0, .ref h)] [.ref q223, .ref h] ω224 (19, 1238)
  refine Y_putF C hI pf_X12_init_105 b225 c226 rfl rfl (Nat.le_of_ble_eq_true rfl) dX12_init_327 (fun ω227 bZ cZ => ?_)
  have b228 : BT ω0 ω227 h [(q10, .inl (vC (mV M) 0, (6, .inl (fun _ => 0)))), (q17, .inl (vC (mV M) 0, (6, .inl (fun _ => 0)))), (q24, .inl (vC (mV M) 0, (6, .inl (fun _ => 0)))), (q31, .inl (vC (mV M) 0, (6, .inl (fun _ => 0)))), (q38, .inl (vC (mV M) 0, (6, .inl (fun _ => 0)))), (q45, .inl (vC (mV M) 0, (6, .inl (fun _ => 0)))), (q52, .inl (vC (mV M) 0, (24, .inl (fun _ => 0)))), (q59, .inl (vC (mV M) 0, (6, .inl (fun _ => 0)))), (q81, .inl (vC (mV M) 0, (100, .inl (fun _ => 0)))), (q88, .inl (vC (mV M) 0, (6, .inl (fun _ => 0)))), (q95, .inl (vC (mV M) 0, (60, .inl (fun _ => 0)))), (q102, .inl (vC (mV M) 0, (60, .inl (fun _ => 0)))), (q109, .inl (vC (mV M) 0, (60, .inl (fun _ => 0)))), (q116, .inl (vC (mV M) 0, (60, .inl (fun _ => 0)))), (q123, .inl (vC (mV M) 0, (600, .inl (fun _ => 0)))), (q130, .inl (vC (mV M) 0, (101, .inl (fun _ => 0)))), (q146, .inl (vC (mV M) 0, (19, .inl (upd (upd (upd (upd (upd (upd (upd (upd (upd (upd (upd (upd (upd (upd (upd (upd (upd (upd (upd (fun _ => 0) 0 (102 : Int32)) 1 (97 : Int32)) 2 (115 : Int32)) 3 (116 : Int32)) 4 (115 : Int32)) 5 (108 : Int32)) 6 (111 : Int32)) 7 (119 : Int32)) 8 (103 : Int32)) 9 (97 : Int32)) 10 (112 : Int32)) 11 (116 : Int32)) 12 (105 : Int32)) 13 (114 : Int32)) 14 (101 : Int32)) 15 (108 : Int32)) 16 (111 : Int32)) 17 (110 : Int32)) 18 (103 : Int32))))), (q213, .inl (vC (mV M) 2, (100, .inl (fun _ => 0)))), (q223, .inl (vC (mV M) 0, (6, .inl (fun _ => 0))))] := bZ
  clear bZ b225
  have c229 : ω227.2 h = .inr (12, [.int (0 : Int32), .int (0 : Int32), .int (0 : Int32), .ref q10, .ref q17, .ref q24, .ref q31, .ref q38, .ref q45, .ref q52, .ref q59, .int (0 : Int32), .int (-1 : Int32), .int (0 : Int32), .int (0 : Int32), .int (0 : Int32), .ref q81, .ref q88, .ref q95, .ref q102, .ref q109, .ref q116, .ref q123, .ref q130, .int (0 : Int32), .int (0 : Int32), .int (0 : Int32), .ref q146, .int (-1 : Int32), .ref q213, .int (0 : Int32), .ref q223, .null, .int 0, .null, .null, .null, .null, .null, .null, .null, .int 0, .null, .null, .null, .int 0, .int 0, .null, .null, .int 0, .int 0, .int 0, .int 0, .int 0, .int 0, .int 0, .null, .null, .null, .null, .null, .null, .null, .null, .null, .null, .null, .null, .null, .int 0, .null, .null, .null, .null, .null]) := cZ
  clear cZ
  refine Z_aload_n C dX12_init_330 0 rfl ?_
  refine Z_bipush C dX12_init_331 (v := (6 : Int32)) (by decide +kernel) ?_
  refine Y_newa (t := 0) (a0 := (6, .inl (fun _ => 0))) C hU b228 (List.mem_of_getElem? (i := 7) rfl) rfl rfl (fun _ _ q => q) (fun _ => rfl) (by decide +kernel) rfl (by decide +kernel) (Nat.le_of_ble_eq_true rfl) (Nat.le_of_ble_eq_true rfl) dX12_init_333 (fun q230 ω231 bZ eZ => ?_)
  have b232 := bZ
  clear bZ b228
  have cZ := eZ.trans c229
  have c233 := cZ
  clear cZ eZ
  show PR M 335 [(0, .ref h)] [.ref q230, .ref h] ω231 (20, 1244)
  refine Y_putF C hI pf_X12_init_108 b232 c233 rfl rfl (Nat.le_of_ble_eq_true rfl) dX12_init_335 (fun ω234 bZ cZ => ?_)
  have b235 := bZ
  clear bZ b232
  have c236 : ω234.2 h = .inr (12, [.int (0 : Int32), .int (0 : Int32), .int (0 : Int32), .ref q10, .ref q17, .ref q24, .ref q31, .ref q38, .ref q45, .ref q52, .ref q59, .int (0 : Int32), .int (-1 : Int32), .int (0 : Int32), .int (0 : Int32), .int (0 : Int32), .ref q81, .ref q88, .ref q95, .ref q102, .ref q109, .ref q116, .ref q123, .ref q130, .int (0 : Int32), .int (0 : Int32), .int (0 : Int32), .ref q146, .int (-1 : Int32), .ref q213, .int (0 : Int32), .ref q223, .ref q230, .int 0, .null, .null, .null, .null, .null, .null, .null, .int 0, .null, .null, .null, .int 0, .int 0, .null, .null, .int 0, .int 0, .int 0, .int 0, .int 0, .int 0, .int 0, .null, .null, .null, .null, .null, .null, .null, .null, .null, .null, .null, .null, .null, .int 0, .null, .null, .null, .null, .null]) := cZ
  clear cZ
  refine Z_aload_n C dX12_init_338 0 rfl ?_
  refine Z_iconst C dX12_init_339 (v := (0 : Int32)) (by decide +kernel) ?_
  refine Y_put C pa_X12_init_111 b235 c236 rfl rfl (Nat.le_of_ble_eq_true rfl) dX12_init_340 (fun ω237 bZ cZ => ?_)
  have b238 := bZ
  clear bZ b235
  have c239 : ω237.2 h = .inr (12, [.int (0 : Int32), .int (0 : Int32), .int (0 : Int32), .ref q10, .ref q17, .ref q24, .ref q31, .ref q38, .ref q45, .ref q52, .ref q59, .int (0 : Int32), .int (-1 : Int32), .int (0 : Int32), .int (0 : Int32), .int (0 : Int32), .ref q81, .ref q88, .ref q95, .ref q102, .ref q109, .ref q116, .ref q123, .ref q130, .int (0 : Int32), .int (0 : Int32), .int (0 : Int32), .ref q146, .int (-1 : Int32), .ref q213, .int (0 : Int32), .ref q223, .ref q230, .int (0 : Int32), .null, .null, .null, .null, .null, .null, .null, .int 0, .null, .null, .null, .int 0, .int 0, .null, .null, .int 0, .int 0, .int 0, .int 0, .int 0, .int 0, .int 0, .null, .null, .null, .null, .null, .null, .null, .null, .null, .null, .null, .null, .null, .int 0, .null, .null, .null, .null, .null]) := cZ
  clear cZ
  refine Z_aload_n C dX12_init_343 0 rfl ?_
  refine Z_bipush C dX12_init_344 (v := (6 : Int32)) (by decide +kernel) ?_
  refine Y_newa (t := 0) (a0 := (6, .inl (fun _ => 0))) C hU b238 (List.mem_of_getElem? (i := 7) rfl) rfl rfl (fun _ _ q => q) (fun _ => rfl) (by decide +kernel) rfl (by decide +kernel) (Nat.le_of_ble_eq_true rfl) (Nat.le_of_ble_eq_true rfl) dX12_init_346 (fun q240 ω241 bZ eZ => ?_)
  have b242 := bZ
  clear bZ b238
  have cZ := eZ.trans c239
  have c243 := cZ
  clear cZ eZ
  show PR M 348 [(0, .ref h)] [.ref q240, .ref h] ω241 (21, 1250)
  refine Y_putF C hI pf_X12_init_114 b242 c243 rfl rfl (Nat.le_of_ble_eq_true rfl) dX12_init_348 (fun ω244 bZ cZ => ?_)
  have b245 : BT ω0 ω244 h [(q10, .inl (vC (mV M) 0, (6, .inl (fun _ => 0)))), (q17, .inl (vC (mV M) 0, (6, .inl (fun _ => 0)))), (q24, .inl (vC (mV M) 0, (6, .inl (fun _ => 0)))), (q31, .inl (vC (mV M) 0, (6, .inl (fun _ => 0)))), (q38, .inl (vC (mV M) 0, (6, .inl (fun _ => 0)))), (q45, .inl (vC (mV M) 0, (6, .inl (fun _ => 0)))), (q52, .inl (vC (mV M) 0, (24, .inl (fun _ => 0)))), (q59, .inl (vC (mV M) 0, (6, .inl (fun _ => 0)))), (q81, .inl (vC (mV M) 0, (100, .inl (fun _ => 0)))), (q88, .inl (vC (mV M) 0, (6, .inl (fun _ => 0)))), (q95, .inl (vC (mV M) 0, (60, .inl (fun _ => 0)))), (q102, .inl (vC (mV M) 0, (60, .inl (fun _ => 0)))), (q109, .inl (vC (mV M) 0, (60, .inl (fun _ => 0)))), (q116, .inl (vC (mV M) 0, (60, .inl (fun _ => 0)))), (q123, .inl (vC (mV M) 0, (600, .inl (fun _ => 0)))), (q130, .inl (vC (mV M) 0, (101, .inl (fun _ => 0)))), (q146, .inl (vC (mV M) 0, (19, .inl (upd (upd (upd (upd (upd (upd (upd (upd (upd (upd (upd (upd (upd (upd (upd (upd (upd (upd (upd (fun _ => 0) 0 (102 : Int32)) 1 (97 : Int32)) 2 (115 : Int32)) 3 (116 : Int32)) 4 (115 : Int32)) 5 (108 : Int32)) 6 (111 : Int32)) 7 (119 : Int32)) 8 (103 : Int32)) 9 (97 : Int32)) 10 (112 : Int32)) 11 (116 : Int32)) 12 (105 : Int32)) 13 (114 : Int32)) 14 (101 : Int32)) 15 (108 : Int32)) 16 (111 : Int32)) 17 (110 : Int32)) 18 (103 : Int32))))), (q213, .inl (vC (mV M) 2, (100, .inl (fun _ => 0)))), (q223, .inl (vC (mV M) 0, (6, .inl (fun _ => 0)))), (q230, .inl (vC (mV M) 0, (6, .inl (fun _ => 0)))), (q240, .inl (vC (mV M) 0, (6, .inl (fun _ => 0))))] := bZ
  clear bZ b242
  have c246 : ω244.2 h = .inr (12, [.int (0 : Int32), .int (0 : Int32), .int (0 : Int32), .ref q10, .ref q17, .ref q24, .ref q31, .ref q38, .ref q45, .ref q52, .ref q59, .int (0 : Int32), .int (-1 : Int32), .int (0 : Int32), .int (0 : Int32), .int (0 : Int32), .ref q81, .ref q88, .ref q95, .ref q102, .ref q109, .ref q116, .ref q123, .ref q130, .int (0 : Int32), .int (0 : Int32), .int (0 : Int32), .ref q146, .int (-1 : Int32), .ref q213, .int (0 : Int32), .ref q223, .ref q230, .int (0 : Int32), .ref q240, .null, .null, .null, .null, .null, .null, .int 0, .null, .null, .null, .int 0, .int 0, .null, .null, .int 0, .int 0, .int 0, .int 0, .int 0, .int 0, .int 0, .null, .null, .null, .null, .null, .null, .null, .null, .null, .null, .null, .null, .null, .int 0, .null, .null, .null, .null, .null]) := cZ
  clear cZ
  refine Z_aload_n C dX12_init_351 0 rfl ?_
  refine Z_bipush C dX12_init_352 (v := (6 : Int32)) (by decide +kernel) ?_
  refine Y_newa (t := 0) (a0 := (6, .inl (fun _ => 0))) C hU b245 (List.mem_of_getElem? (i := 7) rfl) rfl rfl (fun _ _ q => q) (fun _ => rfl) (by decide +kernel) rfl (by decide +kernel) (Nat.le_of_ble_eq_true rfl) (Nat.le_of_ble_eq_true rfl) dX12_init_354 (fun q247 ω248 bZ eZ => ?_)
  have b249 := bZ
  clear bZ b245
  have cZ := eZ.trans c246
  have c250 := cZ
  clear cZ eZ
  show PR M 356 [(0, .ref h)] [.ref q247, .ref h] ω248 (22, 1256)
  refine Y_putF C hI pf_X12_init_117 b249 c250 rfl rfl (Nat.le_of_ble_eq_true rfl) dX12_init_356 (fun ω251 bZ cZ => ?_)
  have b252 := bZ
  clear bZ b249
  have c253 : ω251.2 h = .inr (12, [.int (0 : Int32), .int (0 : Int32), .int (0 : Int32), .ref q10, .ref q17, .ref q24, .ref q31, .ref q38, .ref q45, .ref q52, .ref q59, .int (0 : Int32), .int (-1 : Int32), .int (0 : Int32), .int (0 : Int32), .int (0 : Int32), .ref q81, .ref q88, .ref q95, .ref q102, .ref q109, .ref q116, .ref q123, .ref q130, .int (0 : Int32), .int (0 : Int32), .int (0 : Int32), .ref q146, .int (-1 : Int32), .ref q213, .int (0 : Int32), .ref q223, .ref q230, .int (0 : Int32), .ref q240, .ref q247, .null, .null, .null, .null, .null, .int 0, .null, .null, .null, .int 0, .int 0, .null, .null, .int 0, .int 0, .int 0, .int 0, .int 0, .int 0, .int 0, .null, .null, .null, .null, .null, .null, .null, .null, .null, .null, .null, .null, .null, .int 0, .null, .null, .null, .null, .null]) := cZ
  clear cZ
  refine Z_aload_n C dX12_init_359 0 rfl ?_
  refine Z_bipush C dX12_init_360 (v := (6 : Int32)) (by decide +kernel) ?_
  refine Y_newa (t := 0) (a0 := (6, .inl (fun _ => 0))) C hU b252 (List.mem_of_getElem? (i := 7) rfl) rfl rfl (fun _ _ q => q) (fun _ => rfl) (by decide +kernel) rfl (by decide +kernel) (Nat.le_of_ble_eq_true rfl) (Nat.le_of_ble_eq_true rfl) dX12_init_362 (fun q254 ω255 bZ eZ => ?_)
  have b256 := bZ
  clear bZ b252
  have cZ := eZ.trans c253
  have c257 := cZ
  clear cZ eZ
  show PR M 364 [(0, .ref h)] [.ref q254, .ref h] ω255 (23, 1262)
  refine Y_putF C hI pf_X12_init_120 b256 c257 rfl rfl (Nat.le_of_ble_eq_true rfl) dX12_init_364 (fun ω258 bZ cZ => ?_)
  have b259 := bZ
  clear bZ b256
  have c260 : ω258.2 h = .inr (12, [.int (0 : Int32), .int (0 : Int32), .int (0 : Int32), .ref q10, .ref q17, .ref q24, .ref q31, .ref q38, .ref q45, .ref q52, .ref q59, .int (0 : Int32), .int (-1 : Int32), .int (0 : Int32), .int (0 : Int32), .int (0 : Int32), .ref q81, .ref q88, .ref q95, .ref q102, .ref q109, .ref q116, .ref q123, .ref q130, .int (0 : Int32), .int (0 : Int32), .int (0 : Int32), .ref q146, .int (-1 : Int32), .ref q213, .int (0 : Int32), .ref q223, .ref q230, .int (0 : Int32), .ref q240, .ref q247, .ref q254, .null, .null, .null, .null, .int 0, .null, .null, .null, .int 0, .int 0, .null, .null, .int 0, .int 0, .int 0, .int 0, .int 0, .int 0, .int 0, .null, .null, .null, .null, .null, .null, .null, .null, .null, .null, .null, .null, .null, .int 0, .null, .null, .null, .null, .null]) := cZ
  clear cZ
  refine Z_aload_n C dX12_init_367 0 rfl ?_
  refine Z_bipush C dX12_init_368 (v := (6 : Int32)) (by decide +kernel) ?_
  refine Y_newa (t := 0) (a0 := (6, .inl (fun _ => 0))) C hU b259 (List.mem_of_getElem? (i := 7) rfl) rfl rfl (fun _ _ q => q) (fun _ => rfl) (by decide +kernel) rfl (by decide +kernel) (Nat.le_of_ble_eq_true rfl) (Nat.le_of_ble_eq_true rfl) dX12_init_370 (fun q261 ω262 bZ eZ => ?_)
  have b263 : BT ω0 ω262 h [(q10, .inl (vC (mV M) 0, (6, .inl (fun _ => 0)))), (q17, .inl (vC (mV M) 0, (6, .inl (fun _ => 0)))), (q24, .inl (vC (mV M) 0, (6, .inl (fun _ => 0)))), (q31, .inl (vC (mV M) 0, (6, .inl (fun _ => 0)))), (q38, .inl (vC (mV M) 0, (6, .inl (fun _ => 0)))), (q45, .inl (vC (mV M) 0, (6, .inl (fun _ => 0)))), (q52, .inl (vC (mV M) 0, (24, .inl (fun _ => 0)))), (q59, .inl (vC (mV M) 0, (6, .inl (fun _ => 0)))), (q81, .inl (vC (mV M) 0, (100, .inl (fun _ => 0)))), (q88, .inl (vC (mV M) 0, (6, .inl (fun _ => 0)))), (q95, .inl (vC (mV M) 0, (60, .inl (fun _ => 0)))), (q102, .inl (vC (mV M) 0, (60, .inl (fun _ => 0)))), (q109, .inl (vC (mV M) 0, (60, .inl (fun _ => 0)))), (q116, .inl (vC (mV M) 0, (60, .inl (fun _ => 0)))), (q123, .inl (vC (mV M) 0, (600, .inl (fun _ => 0)))), (q130, .inl (vC (mV M) 0, (101, .inl (fun _ => 0)))), (q146, .inl (vC (mV M) 0, (19, .inl (upd (upd (upd (upd (upd (upd (upd (upd (upd (upd (upd (upd (upd (upd (upd (upd (upd (upd (upd (fun _ => 0) 0 (102 : Int32)) 1 (97 : Int32)) 2 (115 : Int32)) 3 (116 : Int32)) 4 (115 : Int32)) 5 (108 : Int32)) 6 (111 : Int32)) 7 (119 : Int32)) 8 (103 : Int32)) 9 (97 : Int32)) 10 (112 : Int32)) 11 (116 : Int32)) 12 (105 : Int32)) 13 (114 : Int32)) 14 (101 : Int32)) 15 (108 : Int32)) 16 (111 : Int32)) 17 (110 : Int32)) 18 (103 : Int32))))), (q213, .inl (vC (mV M) 2, (100, .inl (fun _ => 0)))), (q223, .inl (vC (mV M) 0, (6, .inl (fun _ => 0)))), (q230, .inl (vC (mV M) 0, (6, .inl (fun _ => 0)))), (q240, .inl (vC (mV M) 0, (6, .inl (fun _ => 0)))), (q247, .inl (vC (mV M) 0, (6, .inl (fun _ => 0)))), (q254, .inl (vC (mV M) 0, (6, .inl (fun _ => 0)))), (q261, .inl (vC (mV M) 0, (6, .inl (fun _ => 0))))] := bZ
  clear bZ b259
  have cZ := eZ.trans c260
  have c264 := cZ
  clear cZ eZ
  show PR M 372 [(0, .ref h)] [.ref q261, .ref h] ω262 (24, 1268)
  refine Y_putF C hI pf_X12_init_123 b263 c264 rfl rfl (Nat.le_of_ble_eq_true rfl) dX12_init_372 (fun ω265 bZ cZ => ?_)
  have b266 := bZ
  clear bZ b263
  have c267 : ω265.2 h = .inr (12, [.int (0 : Int32), .int (0 : Int32), .int (0 : Int32), .ref q10, .ref q17, .ref q24, .ref q31, .ref q38, .ref q45, .ref q52, .ref q59, .int (0 : Int32), .int (-1 : Int32), .int (0 : Int32), .int (0 : Int32), .int (0 : Int32), .ref q81, .ref q88, .ref q95, .ref q102, .ref q109, .ref q116, .ref q123, .ref q130, .int (0 : Int32), .int (0 : Int32), .int (0 : Int32), .ref q146, .int (-1 : Int32), .ref q213, .int (0 : Int32), .ref q223, .ref q230, .int (0 : Int32), .ref q240, .ref q247, .ref q254, .ref q261, .null, .null, .null, .int 0, .null, .null, .null, .int 0, .int 0, .null, .null, .int 0, .int 0, .int 0, .int 0, .int 0, .int 0, .int 0, .null, .null, .null, .null, .null, .null, .null, .null, .null, .null, .null, .null, .null, .int 0, .null, .null, .null, .null, .null]) := cZ
  clear cZ
  refine Z_aload_n C dX12_init_375 0 rfl ?_
  refine Z_bipush C dX12_init_376 (v := (6 : Int32)) (by decide +kernel) ?_
  refine Y_newa (t := 0) (a0 := (6, .inl (fun _ => 0))) C hU b266 (List.mem_of_getElem? (i := 7) rfl) rfl rfl (fun _ _ q => q) (fun _ => rfl) (by decide +kernel) rfl (by decide +kernel) (Nat.le_of_ble_eq_true rfl) (Nat.le_of_ble_eq_true rfl) dX12_init_378 (fun q268 ω269 bZ eZ => ?_)
  have b270 := bZ
  clear bZ b266
  have cZ := eZ.trans c267
  have c271 := cZ
  clear cZ eZ
  show PR M 380 [(0, .ref h)] [.ref q268, .ref h] ω269 (25, 1274)
  refine Y_putF C hI pf_X12_init_126 b270 c271 rfl rfl (Nat.le_of_ble_eq_true rfl) dX12_init_380 (fun ω272 bZ cZ => ?_)
  have b273 := bZ
  clear bZ b270
  have c274 : ω272.2 h = .inr (12, [.int (0 : Int32), .int (0 : Int32), .int (0 : Int32), .ref q10, .ref q17, .ref q24, .ref q31, .ref q38, .ref q45, .ref q52, .ref q59, .int (0 : Int32), .int (-1 : Int32), .int (0 : Int32), .int (0 : Int32), .int (0 : Int32), .ref q81, .ref q88, .ref q95, .ref q102, .ref q109, .ref q116, .ref q123, .ref q130, .int (0 : Int32), .int (0 : Int32), .int (0 : Int32), .ref q146, .int (-1 : Int32), .ref q213, .int (0 : Int32), .ref q223, .ref q230, .int (0 : Int32), .ref q240, .ref q247, .ref q254, .ref q261, .ref q268, .null, .null, .int 0, .null, .null, .null, .int 0, .int 0, .null, .null, .int 0, .int 0, .int 0, .int 0, .int 0, .int 0, .int 0, .null, .null, .null, .null, .null, .null, .null, .null, .null, .null, .null, .null, .null, .int 0, .null, .null, .null, .null, .null]) := cZ
  clear cZ
  refine Z_aload_n C dX12_init_383 0 rfl ?_
  refine Z_bipush C dX12_init_384 (v := (6 : Int32)) (by decide +kernel) ?_
  refine Y_newa (t := 0) (a0 := (6, .inl (fun _ => 0))) C hU b273 (List.mem_of_getElem? (i := 7) rfl) rfl rfl (fun _ _ q => q) (fun _ => rfl) (by decide +kernel) rfl (by decide +kernel) (Nat.le_of_ble_eq_true rfl) (Nat.le_of_ble_eq_true rfl) dX12_init_386 (fun q275 ω276 bZ eZ => ?_)
  have b277 := bZ
  clear bZ b273
  have cZ := eZ.trans c274
  have c278 := cZ
  clear cZ eZ
  show PR M 388 [(0, .ref h)] [.ref q275, .ref h] ω276 (26, 1280)
  refine Y_putF C hI pf_X12_init_129 b277 c278 rfl rfl (Nat.le_of_ble_eq_true rfl) dX12_init_388 (fun ω279 bZ cZ => ?_)
  have b280 : BT ω0 ω279 h [(q10, .inl (vC (mV M) 0, (6, .inl (fun _ => 0)))), (q17, .inl (vC (mV M) 0, (6, .inl (fun _ => 0)))), (q24, .inl (vC (mV M) 0, (6, .inl (fun _ => 0)))), (q31, .inl (vC (mV M) 0, (6, .inl (fun _ => 0)))), (q38, .inl (vC (mV M) 0, (6, .inl (fun _ => 0)))), (q45, .inl (vC (mV M) 0, (6, .inl (fun _ => 0)))), (q52, .inl (vC (mV M) 0, (24, .inl (fun _ => 0)))), (q59, .inl (vC (mV M) 0, (6, .inl (fun _ => 0)))), (q81, .inl (vC (mV M) 0, (100, .inl (fun _ => 0)))), (q88, .inl (vC (mV M) 0, (6, .inl (fun _ => 0)))), (q95, .inl (vC (mV M) 0, (60, .inl (fun _ => 0)))), (q102, .inl (vC (mV M) 0, (60, .inl (fun _ => 0)))), (q109, .inl (vC (mV M) 0, (60, .inl (fun _ => 0)))), (q116, .inl (vC (mV M) 0, (60, .inl (fun _ => 0)))), (q123, .inl (vC (mV M) 0, (600, .inl (fun _ => 0)))), (q130, .inl (vC (mV M) 0, (101, .inl (fun _ => 0)))), (q146, .inl (vC (mV M) 0, (19, .inl (upd (upd (upd (upd (upd (upd (upd (upd (upd (upd (upd (upd (upd (upd (upd (upd (upd (upd (upd (fun _ => 0) 0 (102 : Int32)) 1 (97 : Int32)) 2 (115 : Int32)) 3 (116 : Int32)) 4 (115 : Int32)) 5 (108 : Int32)) 6 (111 : Int32)) 7 (119 : Int32)) 8 (103 : Int32)) 9 (97 : Int32)) 10 (112 : Int32)) 11 (116 : Int32)) 12 (105 : Int32)) 13 (114 : Int32)) 14 (101 : Int32)) 15 (108 : Int32)) 16 (111 : Int32)) 17 (110 : Int32)) 18 (103 : Int32))))), (q213, .inl (vC (mV M) 2, (100, .inl (fun _ => 0)))), (q223, .inl (vC (mV M) 0, (6, .inl (fun _ => 0)))), (q230, .inl (vC (mV M) 0, (6, .inl (fun _ => 0)))), (q240, .inl (vC (mV M) 0, (6, .inl (fun _ => 0)))), (q247, .inl (vC (mV M) 0, (6, .inl (fun _ => 0)))), (q254, .inl (vC (mV M) 0, (6, .inl (fun _ => 0)))), (q261, .inl (vC (mV M) 0, (6, .inl (fun _ => 0)))), (q268, .inl (vC (mV M) 0, (6, .inl (fun _ => 0)))), (q275, .inl (vC (mV M) 0, (6, .inl (fun _ => 0))))] := bZ
  clear bZ b277
  have c281 : ω279.2 h = .inr (12, [.int (0 : Int32), .int (0 : Int32), .int (0 : Int32), .ref q10, .ref q17, .ref q24, .ref q31, .ref q38, .ref q45, .ref q52, .ref q59, .int (0 : Int32), .int (-1 : Int32), .int (0 : Int32), .int (0 : Int32), .int (0 : Int32), .ref q81, .ref q88, .ref q95, .ref q102, .ref q109, .ref q116, .ref q123, .ref q130, .int (0 : Int32), .int (0 : Int32), .int (0 : Int32), .ref q146, .int (-1 : Int32), .ref q213, .int (0 : Int32), .ref q223, .ref q230, .int (0 : Int32), .ref q240, .ref q247, .ref q254, .ref q261, .ref q268, .ref q275, .null, .int 0, .null, .null, .null, .int 0, .int 0, .null, .null, .int 0, .int 0, .int 0, .int 0, .int 0, .int 0, .int 0, .null, .null, .null, .null, .null, .null, .null, .null, .null, .null, .null, .null, .null, .int 0, .null, .null, .null, .null, .null]) := cZ
  clear cZ
  refine Z_aload_n C dX12_init_391 0 rfl ?_
  refine Z_bipush C dX12_init_392 (v := (6 : Int32)) (by decide +kernel) ?_
  refine Y_newa (t := 0) (a0 := (6, .inl (fun _ => 0))) C hU b280 (List.mem_of_getElem? (i := 7) rfl) rfl rfl (fun _ _ q => q) (fun _ => rfl) (by decide +kernel) rfl (by decide +kernel) (Nat.le_of_ble_eq_true rfl) (Nat.le_of_ble_eq_true rfl) dX12_init_394 (fun q282 ω283 bZ eZ => ?_)
  have b284 := bZ
  clear bZ b280
  have cZ := eZ.trans c281
  have c285 := cZ
  clear cZ eZ
  show PR M 396 [(0, .ref h)] [.ref q282, .ref h] ω283 (27, 1286)
  refine Y_putF C hI pf_X12_init_132 b284 c285 rfl rfl (Nat.le_of_ble_eq_true rfl) dX12_init_396 (fun ω286 bZ cZ => ?_)
  have b287 := bZ
  clear bZ b284
  have c288 : ω286.2 h = .inr (12, [.int (0 : Int32), .int (0 : Int32), .int (0 : Int32), .ref q10, .ref q17, .ref q24, .ref q31, .ref q38, .ref q45, .ref q52, .ref q59, .int (0 : Int32), .int (-1 : Int32), .int (0 : Int32), .int (0 : Int32), .int (0 : Int32), .ref q81, .ref q88, .ref q95, .ref q102, .ref q109, .ref q116, .ref q123, .ref q130, .int (0 : Int32), .int (0 : Int32), .int (0 : Int32), .ref q146, .int (-1 : Int32), .ref q213, .int (0 : Int32), .ref q223, .ref q230, .int (0 : Int32), .ref q240, .ref q247, .ref q254, .ref q261, .ref q268, .ref q275, .ref q282, .int 0, .null, .null, .null, .int 0, .int 0, .null, .null, .int 0, .int 0, .int 0, .int 0, .int 0, .int 0, .int 0, .null, .null, .null, .null, .null, .null, .null, .null, .null, .null, .null, .null, .null, .int 0, .null, .null, .null, .null, .null]) := cZ
  clear cZ
  refine Z_aload_n C dX12_init_399 0 rfl ?_
  refine Z_iconst C dX12_init_400 (v := (0 : Int32)) (by decide +kernel) ?_
  refine Y_put C pa_X12_init_135 b287 c288 rfl rfl (Nat.le_of_ble_eq_true rfl) dX12_init_401 (fun ω289 bZ cZ => ?_)
  have b290 := bZ
  clear bZ b287
  have c291 : ω289.2 h = .inr (12, [.int (0 : Int32), .int (0 : Int32), .int (0 : Int32), .ref q10, .ref q17, .ref q24, .ref q31, .ref q38, .ref q45, .ref q52, .ref q59, .int (0 : Int32), .int (-1 : Int32), .int (0 : Int32), .int (0 : Int32), .int (0 : Int32), .ref q81, .ref q88, .ref q95, .ref q102, .ref q109, .ref q116, .ref q123, .ref q130, .int (0 : Int32), .int (0 : Int32), .int (0 : Int32), .ref q146, .int (-1 : Int32), .ref q213, .int (0 : Int32), .ref q223, .ref q230, .int (0 : Int32), .ref q240, .ref q247, .ref q254, .ref q261, .ref q268, .ref q275, .ref q282, .int (0 : Int32), .null, .null, .null, .int 0, .int 0, .null, .null, .int 0, .int 0, .int 0, .int 0, .int 0, .int 0, .int 0, .null, .null, .null, .null, .null, .null, .null, .null, .null, .null, .null, .null, .null, .int 0, .null, .null, .null, .null, .null]) := cZ
  clear cZ
  refine Z_aload_n C dX12_init_404 0 rfl ?_
  refine Z_bipush C dX12_init_405 (v := (6 : Int32)) (by decide +kernel) ?_
  refine Y_newa (t := 0) (a0 := (6, .inl (fun _ => 0))) C hU b290 (List.mem_of_getElem? (i := 7) rfl) rfl rfl (fun _ _ q => q) (fun _ => rfl) (by decide +kernel) rfl (by decide +kernel) (Nat.le_of_ble_eq_true rfl) (Nat.le_of_ble_eq_true rfl) dX12_init_407 (fun q292 ω293 bZ eZ => ?_)
  have b294 := bZ
  clear bZ b290
  have cZ := eZ.trans c291
  have c295 := cZ
  clear cZ eZ
  show PR M 409 [(0, .ref h)] [.ref q292, .ref h] ω293 (28, 1292)
  refine Y_putF C hI pf_X12_init_138 b294 c295 rfl rfl (Nat.le_of_ble_eq_true rfl) dX12_init_409 (fun ω296 bZ cZ => ?_)
  have b297 : BT ω0 ω296 h [(q10, .inl (vC (mV M) 0, (6, .inl (fun _ => 0)))), (q17, .inl (vC (mV M) 0, (6, .inl (fun _ => 0)))), (q24, .inl (vC (mV M) 0, (6, .inl (fun _ => 0)))), (q31, .inl (vC (mV M) 0, (6, .inl (fun _ => 0)))), (q38, .inl (vC (mV M) 0, (6, .inl (fun _ => 0)))), (q45, .inl (vC (mV M) 0, (6, .inl (fun _ => 0)))), (q52, .inl (vC (mV M) 0, (24, .inl (fun _ => 0)))), (q59, .inl (vC (mV M) 0, (6, .inl (fun _ => 0)))), (q81, .inl (vC (mV M) 0, (100, .inl (fun _ => 0)))), (q88, .inl (vC (mV M) 0, (6, .inl (fun _ => 0)))), (q95, .inl (vC (mV M) 0, (60, .inl (fun _ => 0)))), (q102, .inl (vC (mV M) 0, (60, .inl (fun _ => 0)))), (q109, .inl (vC (mV M) 0, (60, .inl (fun _ => 0)))), (q116, .inl (vC (mV M) 0, (60, .inl (fun _ => 0)))), (q123, .inl (vC (mV M) 0, (600, .inl (fun _ => 0)))), (q130, .inl (vC (mV M) 0, (101, .inl (fun _ => 0)))), (q146, .inl (vC (mV M) 0, (19, .inl (upd (upd (upd (upd (upd (upd (upd (upd (upd (upd (upd (upd (upd (upd (upd (upd (upd (upd (upd (fun _ => 0) 0 (102 : Int32)) 1 (97 : Int32)) 2 (115 : Int32)) 3 (116 : Int32)) 4 (115 : Int32)) 5 (108 : Int32)) 6 (111 : Int32)) 7 (119 : Int32)) 8 (103 : Int32)) 9 (97 : Int32)) 10 (112 : Int32)) 11 (116 : Int32)) 12 (105 : Int32)) 13 (114 : Int32)) 14 (101 : Int32)) 15 (108 : Int32)) 16 (111 : Int32)) 17 (110 : Int32)) 18 (103 : Int32))))), (q213, .inl (vC (mV M) 2, (100, .inl (fun _ => 0)))), (q223, .inl (vC (mV M) 0, (6, .inl (fun _ => 0)))), (q230, .inl (vC (mV M) 0, (6, .inl (fun _ => 0)))), (q240, .inl (vC (mV M) 0, (6, .inl (fun _ => 0)))), (q247, .inl (vC (mV M) 0, (6, .inl (fun _ => 0)))), (q254, .inl (vC (mV M) 0, (6, .inl (fun _ => 0)))), (q261, .inl (vC (mV M) 0, (6, .inl (fun _ => 0)))), (q268, .inl (vC (mV M) 0, (6, .inl (fun _ => 0)))), (q275, .inl (vC (mV M) 0, (6, .inl (fun _ => 0)))), (q282, .inl (vC (mV M) 0, (6, .inl (fun _ => 0)))), (q292, .inl (vC (mV M) 0, (6, .inl (fun _ => 0))))] := bZ
  clear bZ b294
  have c298 : ω296.2 h = .inr (12, [.int (0 : Int32), .int (0 : Int32), .int (0 : Int32), .ref q10, .ref q17, .ref q24, .ref q31, .ref q38, .ref q45, .ref q52, .ref q59, .int (0 : Int32), .int (-1 : Int32), .int (0 : Int32), .int (0 : Int32), .int (0 : Int32), .ref q81, .ref q88, .ref q95, .ref q102, .ref q109, .ref q116, .ref q123, .ref q130, .int (0 : Int32), .int (0 : Int32), .int (0 : Int32), .ref q146, .int (-1 : Int32), .ref q213, .int (0 : Int32), .ref q223, .ref q230, .int (0 : Int32), .ref q240, .ref q247, .ref q254, .ref q261, .ref q268, .ref q275, .ref q282, .int (0 : Int32), .ref q292, .null, .null, .int 0, .int 0, .null, .null, .int 0, .int 0, .int 0, .int 0, .int 0, .int 0, .int 0, .null, .null, .null, .null, .null, .null, .null, .null, .null, .null, .null, .null, .null, .int 0, .null, .null, .null, .null, .null]) := cZ
  clear cZ
  refine Z_aload_n C dX12_init_412 0 rfl ?_
  refine Z_bipush C dX12_init_413 (v := (6 : Int32)) (by decide +kernel) ?_
  refine Y_newa (t := 0) (a0 := (6, .inl (fun _ => 0))) C hU b297 (List.mem_of_getElem? (i := 7) rfl) rfl rfl (fun _ _ q => q) (fun _ => rfl) (by decide +kernel) rfl (by decide +kernel) (Nat.le_of_ble_eq_true rfl) (Nat.le_of_ble_eq_true rfl) dX12_init_415 (fun q299 ω300 bZ eZ => ?_)
  have b301 := bZ
  clear bZ b297
  have cZ := eZ.trans c298
  have c302 := cZ
  clear cZ eZ
  show PR M 417 [(0, .ref h)] [.ref q299, .ref h] ω300 (29, 1298)
  refine Y_putF C hI pf_X12_init_141 b301 c302 rfl rfl (Nat.le_of_ble_eq_true rfl) dX12_init_417 (fun ω303 bZ cZ => ?_)
  have b304 := bZ
  clear bZ b301
  have c305 : ω303.2 h = .inr (12, [.int (0 : Int32), .int (0 : Int32), .int (0 : Int32), .ref q10, .ref q17, .ref q24, .ref q31, .ref q38, .ref q45, .ref q52, .ref q59, .int (0 : Int32), .int (-1 : Int32), .int (0 : Int32), .int (0 : Int32), .int (0 : Int32), .ref q81, .ref q88, .ref q95, .ref q102, .ref q109, .ref q116, .ref q123, .ref q130, .int (0 : Int32), .int (0 : Int32), .int (0 : Int32), .ref q146, .int (-1 : Int32), .ref q213, .int (0 : Int32), .ref q223, .ref q230, .int (0 : Int32), .ref q240, .ref q247, .ref q254, .ref q261, .ref q268, .ref q275, .ref q282, .int (0 : Int32), .ref q292, .ref q299, .null, .int 0, .int 0, .null, .null, .int 0, .int 0, .int 0, .int 0, .int 0, .int 0, .int 0, .null, .null, .null, .null, .null, .null, .null, .null, .null, .null, .null, .null, .null, .int 0, .null, .null, .null, .null, .null]) := cZ
  clear cZ
  refine Z_aload_n C dX12_init_420 0 rfl ?_
  refine Z_bipush C dX12_init_421 (v := (6 : Int32)) (by decide +kernel) ?_
  refine Y_newa (t := 0) (a0 := (6, .inl (fun _ => 0))) C hU b304 (List.mem_of_getElem? (i := 7) rfl) rfl rfl (fun _ _ q => q) (fun _ => rfl) (by decide +kernel) rfl (by decide +kernel) (Nat.le_of_ble_eq_true rfl) (Nat.le_of_ble_eq_true rfl) dX12_init_423 (fun q306 ω307 bZ eZ => ?_)
  have b308 := bZ
  clear bZ b304
  have cZ := eZ.trans c305
  have c309 := cZ
  clear cZ eZ
  show PR M 425 [(0, .ref h)] [.ref q306, .ref h] ω307 (30, 1304)
  refine Y_putF C hI pf_X12_init_144 b308 c309 rfl rfl (Nat.le_of_ble_eq_true rfl) dX12_init_425 (fun ω310 bZ cZ => ?_)
  have b311 := bZ
  clear bZ b308
  have c312 : ω310.2 h = .inr (12, [.int (0 : Int32), .int (0 : Int32), .int (0 : Int32), .ref q10, .ref q17, .ref q24, .ref q31, .ref q38, .ref q45, .ref q52, .ref q59, .int (0 : Int32), .int (-1 : Int32), .int (0 : Int32), .int (0 : Int32), .int (0 : Int32), .ref q81, .ref q88, .ref q95, .ref q102, .ref q109, .ref q116, .ref q123, .ref q130, .int (0 : Int32), .int (0 : Int32), .int (0 : Int32), .ref q146, .int (-1 : Int32), .ref q213, .int (0 : Int32), .ref q223, .ref q230, .int (0 : Int32), .ref q240, .ref q247, .ref q254, .ref q261, .ref q268, .ref q275, .ref q282, .int (0 : Int32), .ref q292, .ref q299, .ref q306, .int 0, .int 0, .null, .null, .int 0, .int 0, .int 0, .int 0, .int 0, .int 0, .int 0, .null, .null, .null, .null, .null, .null, .null, .null, .null, .null, .null, .null, .null, .int 0, .null, .null, .null, .null, .null]) := cZ
  clear cZ
  refine Z_aload_n C dX12_init_428 0 rfl ?_
  refine Z_iconst C dX12_init_429 (v := (0 : Int32)) (by decide +kernel) ?_
  refine Y_put C pa_X12_init_147 b311 c312 rfl rfl (Nat.le_of_ble_eq_true rfl) dX12_init_430 (fun ω313 bZ cZ => ?_)
  have b314 : BT ω0 ω313 h [(q10, .inl (vC (mV M) 0, (6, .inl (fun _ => 0)))), (q17, .inl (vC (mV M) 0, (6, .inl (fun _ => 0)))), (q24, .inl (vC (mV M) 0, (6, .inl (fun _ => 0)))), (q31, .inl (vC (mV M) 0, (6, .inl (fun _ => 0)))), (q38, .inl (vC (mV M) 0, (6, .inl (fun _ => 0)))), (q45, .inl (vC (mV M) 0, (6, .inl (fun _ => 0)))), (q52, .inl (vC (mV M) 0, (24, .inl (fun _ => 0)))), (q59, .inl (vC (mV M) 0, (6, .inl (fun _ => 0)))), (q81, .inl (vC (mV M) 0, (100, .inl (fun _ => 0)))), (q88, .inl (vC (mV M) 0, (6, .inl (fun _ => 0)))), (q95, .inl (vC (mV M) 0, (60, .inl (fun _ => 0)))), (q102, .inl (vC (mV M) 0, (60, .inl (fun _ => 0)))), (q109, .inl (vC (mV M) 0, (60, .inl (fun _ => 0)))), (q116, .inl (vC (mV M) 0, (60, .inl (fun _ => 0)))), (q123, .inl (vC (mV M) 0, (600, .inl (fun _ => 0)))), (q130, .inl (vC (mV M) 0, (101, .inl (fun _ => 0)))), (q146, .inl (vC (mV M) 0, (19, .inl (upd (upd (upd (upd (upd (upd (upd (upd (upd (upd (upd (upd (upd (upd (upd (upd (upd (upd (upd (fun _ => 0) 0 (102 : Int32)) 1 (97 : Int32)) 2 (115 : Int32)) 3 (116 : Int32)) 4 (115 : Int32)) 5 (108 : Int32)) 6 (111 : Int32)) 7 (119 : Int32)) 8 (103 : Int32)) 9 (97 : Int32)) 10 (112 : Int32)) 11 (116 : Int32)) 12 (105 : Int32)) 13 (114 : Int32)) 14 (101 : Int32)) 15 (108 : Int32)) 16 (111 : Int32)) 17 (110 : Int32)) 18 (103 : Int32))))), (q213, .inl (vC (mV M) 2, (100, .inl (fun _ => 0)))), (q223, .inl (vC (mV M) 0, (6, .inl (fun _ => 0)))), (q230, .inl (vC (mV M) 0, (6, .inl (fun _ => 0)))), (q240, .inl (vC (mV M) 0, (6, .inl (fun _ => 0)))), (q247, .inl (vC (mV M) 0, (6, .inl (fun _ => 0)))), (q254, .inl (vC (mV M) 0, (6, .inl (fun _ => 0)))), (q261, .inl (vC (mV M) 0, (6, .inl (fun _ => 0)))), (q268, .inl (vC (mV M) 0, (6, .inl (fun _ => 0)))), (q275, .inl (vC (mV M) 0, (6, .inl (fun _ => 0)))), (q282, .inl (vC (mV M) 0, (6, .inl (fun _ => 0)))), (q292, .inl (vC (mV M) 0, (6, .inl (fun _ => 0)))), (q299, .inl (vC (mV M) 0, (6, .inl (fun _ => 0)))), (q306, .inl (vC (mV M) 0, (6, .inl (fun _ => 0))))] := bZ
  clear bZ b311
  have c315 : ω313.2 h = .inr (12, [.int (0 : Int32), .int (0 : Int32), .int (0 : Int32), .ref q10, .ref q17, .ref q24, .ref q31, .ref q38, .ref q45, .ref q52, .ref q59, .int (0 : Int32), .int (-1 : Int32), .int (0 : Int32), .int (0 : Int32), .int (0 : Int32), .ref q81, .ref q88, .ref q95, .ref q102, .ref q109, .ref q116, .ref q123, .ref q130, .int (0 : Int32), .int (0 : Int32), .int (0 : Int32), .ref q146, .int (-1 : Int32), .ref q213, .int (0 : Int32), .ref q223, .ref q230, .int (0 : Int32), .ref q240, .ref q247, .ref q254, .ref q261, .ref q268, .ref q275, .ref q282, .int (0 : Int32), .ref q292, .ref q299, .ref q306, .int (0 : Int32), .int 0, .null, .null, .int 0, .int 0, .int 0, .int 0, .int 0, .int 0, .int 0, .null, .null, .null, .null, .null, .null, .null, .null, .null, .null, .null, .null, .null, .int 0, .null, .null, .null, .null, .null]) := cZ
  clear cZ
  refine Z_aload_n C dX12_init_433 0 rfl ?_
  refine Z_iconst C dX12_init_434 (v := (0 : Int32)) (by decide +kernel) ?_
  refine Y_put C pa_X12_init_150 b314 c315 rfl rfl (Nat.le_of_ble_eq_true rfl) dX12_init_435 (fun ω316 bZ cZ => ?_)
  have b317 := bZ
  clear bZ b314
  have c318 : ω316.2 h = .inr (12, [.int (0 : Int32), .int (0 : Int32), .int (0 : Int32), .ref q10, .ref q17, .ref q24, .ref q31, .ref q38, .ref q45, .ref q52, .ref q59, .int (0 : Int32), .int (-1 : Int32), .int (0 : Int32), .int (0 : Int32), .int (0 : Int32), .ref q81, .ref q88, .ref q95, .ref q102, .ref q109, .ref q116, .ref q123, .ref q130, .int (0 : Int32), .int (0 : Int32), .int (0 : Int32), .ref q146, .int (-1 : Int32), .ref q213, .int (0 : Int32), .ref q223, .ref q230, .int (0 : Int32), .ref q240, .ref q247, .ref q254, .ref q261, .ref q268, .ref q275, .ref q282, .int (0 : Int32), .ref q292, .ref q299, .ref q306, .int (0 : Int32), .int (0 : Int32), .null, .null, .int 0, .int 0, .int 0, .int 0, .int 0, .int 0, .int 0, .null, .null, .null, .null, .null, .null, .null, .null, .null, .null, .null, .null, .null, .int 0, .null, .null, .null, .null, .null]) := cZ
  clear cZ
  refine Z_aload_n C dX12_init_438 0 rfl ?_
  refine Z_bipush C dX12_init_439 (v := (10 : Int32)) (by decide +kernel) ?_
  refine Y_newa (t := 0) (a0 := (10, .inl (fun _ => 0))) C hU b317 (List.mem_of_getElem? (i := 7) rfl) rfl rfl (fun _ _ q => q) (fun _ => rfl) (by decide +kernel) rfl (by decide +kernel) (Nat.le_of_ble_eq_true rfl) (Nat.le_of_ble_eq_true rfl) dX12_init_441 (fun q319 ω320 bZ eZ => ?_)
  have b321 := bZ
  clear bZ b317
  have cZ := eZ.trans c318
  have c322 := cZ
  clear cZ eZ
  show PR M 443 [(0, .ref h)] [.ref q319, .ref h] ω320 (31, 1314)
  refine Y_putF C hI pf_X12_init_153 b321 c322 rfl rfl (Nat.le_of_ble_eq_true rfl) dX12_init_443 (fun ω323 bZ cZ => ?_)
  have b324 := bZ
  clear bZ b321
  have c325 : ω323.2 h = .inr (12, [.int (0 : Int32), .int (0 : Int32), .int (0 : Int32), .ref q10, .ref q17, .ref q24, .ref q31, .ref q38, .ref q45, .ref q52, .ref q59, .int (0 : Int32), .int (-1 : Int32), .int (0 : Int32), .int (0 : Int32), .int (0 : Int32), .ref q81, .ref q88, .ref q95, .ref q102, .ref q109, .ref q116, .ref q123, .ref q130, .int (0 : Int32), .int (0 : Int32), .int (0 : Int32), .ref q146, .int (-1 : Int32), .ref q213, .int (0 : Int32), .ref q223, .ref q230, .int (0 : Int32), .ref q240, .ref q247, .ref q254, .ref q261, .ref q268, .ref q275, .ref q282, .int (0 : Int32), .ref q292, .ref q299, .ref q306, .int (0 : Int32), .int (0 : Int32), .ref q319, .null, .int 0, .int 0, .int 0, .int 0, .int 0, .int 0, .int 0, .null, .null, .null, .null, .null, .null, .null, .null, .null, .null, .null, .null, .null, .int 0, .null, .null, .null, .null, .null]) := cZ
  clear cZ
  refine Z_aload_n C dX12_init_446 0 rfl ?_
  refine Z_bipush C dX12_init_447 (v := (8 : Int32)) (by decide +kernel) ?_
  refine Y_newa (t := 0) (a0 := (8, .inl (fun _ => 0))) C hU b324 (List.mem_of_getElem? (i := 7) rfl) rfl rfl (fun _ _ q => q) (fun _ => rfl) (by decide +kernel) rfl (by decide +kernel) (Nat.le_of_ble_eq_true rfl) (Nat.le_of_ble_eq_true rfl) dX12_init_449 (fun q326 ω327 bZ eZ => ?_)
  have b328 := bZ
  clear bZ b324
  have cZ := eZ.trans c325
  have c329 := cZ
  clear cZ eZ
  show PR M 451 [(0, .ref h)] [.ref q326, .ref h] ω327 (32, 1322)
  refine Y_putF C hI pf_X12_init_156 b328 c329 rfl rfl (Nat.le_of_ble_eq_true rfl) dX12_init_451 (fun ω330 bZ cZ => ?_)
  have b331 : BT ω0 ω330 h [(q10, .inl (vC (mV M) 0, (6, .inl (fun _ => 0)))), (q17, .inl (vC (mV M) 0, (6, .inl (fun _ => 0)))), (q24, .inl (vC (mV M) 0, (6, .inl (fun _ => 0)))), (q31, .inl (vC (mV M) 0, (6, .inl (fun _ => 0)))), (q38, .inl (vC (mV M) 0, (6, .inl (fun _ => 0)))), (q45, .inl (vC (mV M) 0, (6, .inl (fun _ => 0)))), (q52, .inl (vC (mV M) 0, (24, .inl (fun _ => 0)))), (q59, .inl (vC (mV M) 0, (6, .inl (fun _ => 0)))), (q81, .inl (vC (mV M) 0, (100, .inl (fun _ => 0)))), (q88, .inl (vC (mV M) 0, (6, .inl (fun _ => 0)))), (q95, .inl (vC (mV M) 0, (60, .inl (fun _ => 0)))), (q102, .inl (vC (mV M) 0, (60, .inl (fun _ => 0)))), (q109, .inl (vC (mV M) 0, (60, .inl (fun _ => 0)))), (q116, .inl (vC (mV M) 0, (60, .inl (fun _ => 0)))), (q123, .inl (vC (mV M) 0, (600, .inl (fun _ => 0)))), (q130, .inl (vC (mV M) 0, (101, .inl (fun _ => 0)))), (q146, .inl (vC (mV M) 0, (19, .inl (upd (upd (upd (upd (upd (upd (upd (upd (upd (upd (upd (upd (upd (upd (upd (upd (upd (upd (upd (fun _ => 0) 0 (102 : Int32)) 1 (97 : Int32)) 2 (115 : Int32)) 3 (116 : Int32)) 4 (115 : Int32)) 5 (108 : Int32)) 6 (111 : Int32)) 7 (119 : Int32)) 8 (103 : Int32)) 9 (97 : Int32)) 10 (112 : Int32)) 11 (116 : Int32)) 12 (105 : Int32)) 13 (114 : Int32)) 14 (101 : Int32)) 15 (108 : Int32)) 16 (111 : Int32)) 17 (110 : Int32)) 18 (103 : Int32))))), (q213, .inl (vC (mV M) 2, (100, .inl (fun _ => 0)))), (q223, .inl (vC (mV M) 0, (6, .inl (fun _ => 0)))), (q230, .inl (vC (mV M) 0, (6, .inl (fun _ => 0)))), (q240, .inl (vC (mV M) 0, (6, .inl (fun _ => 0)))), (q247, .inl (vC (mV M) 0, (6, .inl (fun _ => 0)))), (q254, .inl (vC (mV M) 0, (6, .inl (fun _ => 0)))), (q261, .inl (vC (mV M) 0, (6, .inl (fun _ => 0)))), (q268, .inl (vC (mV M) 0, (6, .inl (fun _ => 0)))), (q275, .inl (vC (mV M) 0, (6, .inl (fun _ => 0)))), (q282, .inl (vC (mV M) 0, (6, .inl (fun _ => 0)))), (q292, .inl (vC (mV M) 0, (6, .inl (fun _ => 0)))), (q299, .inl (vC (mV M) 0, (6, .inl (fun _ => 0)))), (q306, .inl (vC (mV M) 0, (6, .inl (fun _ => 0)))), (q319, .inl (vC (mV M) 0, (10, .inl (fun _ => 0)))), (q326, .inl (vC (mV M) 0, (8, .inl (fun _ => 0))))] := bZ
  clear bZ b328
  have c332 : ω330.2 h = .inr (12, [.int (0 : Int32), .int (0 : Int32), .int (0 : Int32), .ref q10, .ref q17, .ref q24, .ref q31, .ref q38, .ref q45, .ref q52, .ref q59, .int (0 : Int32), .int (-1 : Int32), .int (0 : Int32), .int (0 : Int32), .int (0 : Int32), .ref q81, .ref q88, .ref q95, .ref q102, .ref q109, .ref q116, .ref q123, .ref q130, .int (0 : Int32), .int (0 : Int32), .int (0 : Int32), .ref q146, .int (-1 : Int32), .ref q213, .int (0 : Int32), .ref q223, .ref q230, .int (0 : Int32), .ref q240, .ref q247, .ref q254, .ref q261, .ref q268, .ref q275, .ref q282, .int (0 : Int32), .ref q292, .ref q299, .ref q306, .int (0 : Int32), .int (0 : Int32), .ref q319, .ref q326, .int 0, .int 0, .int 0, .int 0, .int 0, .int 0, .int 0, .null, .null, .null, .null, .null, .null, .null, .null, .null, .null, .null, .null, .null, .int 0, .null, .null, .null, .null, .null]) := cZ
  clear cZ
  refine Z_aload_n C dX12_init_454 0 rfl ?_
  refine Z_iconst C dX12_init_455 (v := (0 : Int32)) (by decide +kernel) ?_
  refine Y_put C pa_X12_init_159 b331 c332 rfl rfl (Nat.le_of_ble_eq_true rfl) dX12_init_456 (fun ω333 bZ cZ => ?_)
  have b334 := bZ
  clear bZ b331
  have c335 : ω333.2 h = .inr (12, [.int (0 : Int32), .int (0 : Int32), .int (0 : Int32), .ref q10, .ref q17, .ref q24, .ref q31, .ref q38, .ref q45, .ref q52, .ref q59, .int (0 : Int32), .int (-1 : Int32), .int (0 : Int32), .int (0 : Int32), .int (0 : Int32), .ref q81, .ref q88, .ref q95, .ref q102, .ref q109, .ref q116, .ref q123, .ref q130, .int (0 : Int32), .int (0 : Int32), .int (0 : Int32), .ref q146, .int (-1 : Int32), .ref q213, .int (0 : Int32), .ref q223, .ref q230, .int (0 : Int32), .ref q240, .ref q247, .ref q254, .ref q261, .ref q268, .ref q275, .ref q282, .int (0 : Int32), .ref q292, .ref q299, .ref q306, .int (0 : Int32), .int (0 : Int32), .ref q319, .ref q326, .int (0 : Int32), .int 0, .int 0, .int 0, .int 0, .int 0, .int 0, .null, .null, .null, .null, .null, .null, .null, .null, .null, .null, .null, .null, .null, .int 0, .null, .null, .null, .null, .null]) := cZ
  clear cZ
  refine Z_aload_n C dX12_init_459 0 rfl ?_
  refine Z_iconst C dX12_init_460 (v := (-1 : Int32)) (by decide +kernel) ?_
  refine Y_put C pa_X12_init_163 b334 c335 rfl rfl (Nat.le_of_ble_eq_true rfl) dX12_init_461 (fun ω336 bZ cZ => ?_)
  have b337 := bZ
  clear bZ b334
  have c338 : ω336.2 h = .inr (12, [.int (0 : Int32), .int (0 : Int32), .int (0 : Int32), .ref q10, .ref q17, .ref q24, .ref q31, .ref q38, .ref q45, .ref q52, .ref q59, .int (0 : Int32), .int (-1 : Int32), .int (0 : Int32), .int (0 : Int32), .int (0 : Int32), .ref q81, .ref q88, .ref q95, .ref q102, .ref q109, .ref q116, .ref q123, .ref q130, .int (0 : Int32), .int (0 : Int32), .int (0 : Int32), .ref q146, .int (-1 : Int32), .ref q213, .int (0 : Int32), .ref q223, .ref q230, .int (0 : Int32), .ref q240, .ref q247, .ref q254, .ref q261, .ref q268, .ref q275, .ref q282, .int (0 : Int32), .ref q292, .ref q299, .ref q306, .int (0 : Int32), .int (0 : Int32), .ref q319, .ref q326, .int (0 : Int32), .int (-1 : Int32), .int 0, .int 0, .int 0, .int 0, .int 0, .null, .null, .null, .null, .null, .null, .null, .null, .null, .null, .null, .null, .null, .int 0, .null, .null, .null, .null, .null]) := cZ
  clear cZ
  refine Z_aload_n C dX12_init_464 0 rfl ?_
  refine Z_iconst C dX12_init_465 (v := (0 : Int32)) (by decide +kernel) ?_
  refine Y_put C pa_X12_init_166 b337 c338 rfl rfl (Nat.le_of_ble_eq_true rfl) dX12_init_466 (fun ω339 bZ cZ => ?_)
  have b340 := bZ
  clear bZ b337
  have c341 : ω339.2 h = .inr (12, [.int (0 : Int32), .int (0 : Int32), .int (0 : Int32), .ref q10, .ref q17, .ref q24, .ref q31, .ref q38, .ref q45, .ref q52, .ref q59, .int (0 : Int32), .int (-1 : Int32), .int (0 : Int32), .int (0 : Int32), .int (0 : Int32), .ref q81, .ref q88, .ref q95, .ref q102, .ref q109, .ref q116, .ref q123, .ref q130, .int (0 : Int32), .int (0 : Int32), .int (0 : Int32), .ref q146, .int (-1 : Int32), .ref q213, .int (0 : Int32), .ref q223, .ref q230, .int (0 : Int32), .ref q240, .ref q247, .ref q254, .ref q261, .ref q268, .ref q275, .ref q282, .int (0 : Int32), .ref q292, .ref q299, .ref q306, .int (0 : Int32), .int (0 : Int32), .ref q319, .ref q326, .int (0 : Int32), .int (-1 : Int32), .int (0 : Int32), .int 0, .int 0, .int 0, .int 0, .null, .null, .null, .null, .null, .null, .null, .null, .null, .null, .null, .null, .null, .int 0, .null, .null, .null, .null, .null]) := cZ
  clear cZ
  refine Z_aload_n C dX12_init_469 0 rfl ?_
  refine Z_iconst C dX12_init_470 (v := (0 : Int32)) (by decide +kernel) ?_
  refine Y_put C pa_X12_init_169 b340 c341 rfl rfl (Nat.le_of_ble_eq_true rfl) dX12_init_471 (fun ω342 bZ cZ => ?_)
  have b343 := bZ
  clear bZ b340
  have c344 : ω342.2 h = .inr (12, [.int (0 : Int32), .int (0 : Int32), .int (0 : Int32), .ref q10, .ref q17, .ref q24, .ref q31, .ref q38, .ref q45, .ref q52, .ref q59, .int (0 : Int32), .int (-1 : Int32), .int (0 : Int32), .int (0 : Int32), .int (0 : Int32), .ref q81, .ref q88, .ref q95, .ref q102, .ref q109, .ref q116, .ref q123, .ref q130, .int (0 : Int32), .int (0 : Int32), .int (0 : Int32), .ref q146, .int (-1 : Int32), .ref q213, .int (0 : Int32), .ref q223, .ref q230, .int (0 : Int32), .ref q240, .ref q247, .ref q254, .ref q261, .ref q268, .ref q275, .ref q282, .int (0 : Int32), .ref q292, .ref q299, .ref q306, .int (0 : Int32), .int (0 : Int32), .ref q319, .ref q326, .int (0 : Int32), .int (-1 : Int32), .int (0 : Int32), .int (0 : Int32), .int 0, .int 0, .int 0, .null, .null, .null, .null, .null, .null, .null, .null, .null, .null, .null, .null, .null, .int 0, .null, .null, .null, .null, .null]) := cZ
  clear cZ
  refine Z_aload_n C dX12_init_474 0 rfl ?_
  refine Z_iconst C dX12_init_475 (v := (0 : Int32)) (by decide +kernel) ?_
  refine Y_put C pa_X12_init_172 b343 c344 rfl rfl (Nat.le_of_ble_eq_true rfl) dX12_init_476 (fun ω345 bZ cZ => ?_)
  have b346 : BT ω0 ω345 h [(q10, .inl (vC (mV M) 0, (6, .inl (fun _ => 0)))), (q17, .inl (vC (mV M) 0, (6, .inl (fun _ => 0)))), (q24, .inl (vC (mV M) 0, (6, .inl (fun _ => 0)))), (q31, .inl (vC (mV M) 0, (6, .inl (fun _ => 0)))), (q38, .inl (vC (mV M) 0, (6, .inl (fun _ => 0)))), (q45, .inl (vC (mV M) 0, (6, .inl (fun _ => 0)))), (q52, .inl (vC (mV M) 0, (24, .inl (fun _ => 0)))), (q59, .inl (vC (mV M) 0, (6, .inl (fun _ => 0)))), (q81, .inl (vC (mV M) 0, (100, .inl (fun _ => 0)))), (q88, .inl (vC (mV M) 0, (6, .inl (fun _ => 0)))), (q95, .inl (vC (mV M) 0, (60, .inl (fun _ => 0)))), (q102, .inl (vC (mV M) 0, (60, .inl (fun _ => 0)))), (q109, .inl (vC (mV M) 0, (60, .inl (fun _ => 0)))), (q116, .inl (vC (mV M) 0, (60, .inl (fun _ => 0)))), (q123, .inl (vC (mV M) 0, (600, .inl (fun _ => 0)))), (q130, .inl (vC (mV M) 0, (101, .inl (fun _ => 0)))), (q146, .inl (vC (mV M) 0, (19, .inl (upd (upd (upd (upd (upd (upd (upd (upd (upd (upd (upd (upd (upd (upd (upd (upd (upd (upd (upd (fun _ => 0) 0 (102 : Int32)) 1 (97 : Int32)) 2 (115 : Int32)) 3 (116 : Int32)) 4 (115 : Int32)) 5 (108 : Int32)) 6 (111 : Int32)) 7 (119 : Int32)) 8 (103 : Int32)) 9 (97 : Int32)) 10 (112 : Int32)) 11 (116 : Int32)) 12 (105 : Int32)) 13 (114 : Int32)) 14 (101 : Int32)) 15 (108 : Int32)) 16 (111 : Int32)) 17 (110 : Int32)) 18 (103 : Int32))))), (q213, .inl (vC (mV M) 2, (100, .inl (fun _ => 0)))), (q223, .inl (vC (mV M) 0, (6, .inl (fun _ => 0)))), (q230, .inl (vC (mV M) 0, (6, .inl (fun _ => 0)))), (q240, .inl (vC (mV M) 0, (6, .inl (fun _ => 0)))), (q247, .inl (vC (mV M) 0, (6, .inl (fun _ => 0)))), (q254, .inl (vC (mV M) 0, (6, .inl (fun _ => 0)))), (q261, .inl (vC (mV M) 0, (6, .inl (fun _ => 0)))), (q268, .inl (vC (mV M) 0, (6, .inl (fun _ => 0)))), (q275, .inl (vC (mV M) 0, (6, .inl (fun _ => 0)))), (q282, .inl (vC (mV M) 0, (6, .inl (fun _ => 0)))), (q292, .inl (vC (mV M) 0, (6, .inl (fun _ => 0)))), (q299, .inl (vC (mV M) 0, (6, .inl (fun _ => 0)))), (q306, .inl (vC (mV M) 0, (6, .inl (fun _ => 0)))), (q319, .inl (vC (mV M) 0, (10, .inl (fun _ => 0)))), (q326, .inl (vC (mV M) 0, (8, .inl (fun _ => 0))))] := bZ
  clear bZ b343
  have c347 : ω345.2 h = .inr (12, [.int (0 : Int32), .int (0 : Int32), .int (0 : Int32), .ref q10, .ref q17, .ref q24, .ref q31, .ref q38, .ref q45, .ref q52, .ref q59, .int (0 : Int32), .int (-1 : Int32), .int (0 : Int32), .int (0 : Int32), .int (0 : Int32), .ref q81, .ref q88, .ref q95, .ref q102, .ref q109, .ref q116, .ref q123, .ref q130, .int (0 : Int32), .int (0 : Int32), .int (0 : Int32), .ref q146, .int (-1 : Int32), .ref q213, .int (0 : Int32), .ref q223, .ref q230, .int (0 : Int32), .ref q240, .ref q247, .ref q254, .ref q261, .ref q268, .ref q275, .ref q282, .int (0 : Int32), .ref q292, .ref q299, .ref q306, .int (0 : Int32), .int (0 : Int32), .ref q319, .ref q326, .int (0 : Int32), .int (-1 : Int32), .int (0 : Int32), .int (0 : Int32), .int (0 : Int32), .int 0, .int 0, .null, .null, .null, .null, .null, .null, .null, .null, .null, .null, .null, .null, .null, .int 0, .null, .null, .null, .null, .null]) := cZ
  clear cZ
  refine Z_aload_n C dX12_init_479 0 rfl ?_
  refine Z_iconst C dX12_init_480 (v := (0 : Int32)) (by decide +kernel) ?_
  refine Y_put C pa_X12_init_175 b346 c347 rfl rfl (Nat.le_of_ble_eq_true rfl) dX12_init_481 (fun ω348 bZ cZ => ?_)
  have b349 := bZ
  clear bZ b346
  have c350 : ω348.2 h = .inr (12, [.int (0 : Int32), .int (0 : Int32), .int (0 : Int32), .ref q10, .ref q17, .ref q24, .ref q31, .ref q38, .ref q45, .ref q52, .ref q59, .int (0 : Int32), .int (-1 : Int32), .int (0 : Int32), .int (0 : Int32), .int (0 : Int32), .ref q81, .ref q88, .ref q95, .ref q102, .ref q109, .ref q116, .ref q123, .ref q130, .int (0 : Int32), .int (0 : Int32), .int (0 : Int32), .ref q146, .int (-1 : Int32), .ref q213, .int (0 : Int32), .ref q223, .ref q230, .int (0 : Int32), .ref q240, .ref q247, .ref q254, .ref q261, .ref q268, .ref q275, .ref q282, .int (0 : Int32), .ref q292, .ref q299, .ref q306, .int (0 : Int32), .int (0 : Int32), .ref q319, .ref q326, .int (0 : Int32), .int (-1 : Int32), .int (0 : Int32), .int (0 : Int32), .int (0 : Int32), .int (0 : Int32), .int 0, .null, .null, .null, .null, .null, .null, .null, .null, .null, .null, .null, .null, .null, .int 0, .null, .null, .null, .null, .null]) := cZ
  clear cZ
  refine Z_aload_n C dX12_init_484 0 rfl ?_
  refine Z_iconst C dX12_init_485 (v := (0 : Int32)) (by decide +kernel) ?_
  refine Y_put C pa_X12_init_178 b349 c350 rfl rfl (Nat.le_of_ble_eq_true rfl) dX12_init_486 (fun ω351 bZ cZ => ?_)
  have b352 := bZ
  clear bZ b349
  have c353 : ω351.2 h = .inr (12, [.int (0 : Int32), .int (0 : Int32), .int (0 : Int32), .ref q10, .ref q17, .ref q24, .ref q31, .ref q38, .ref q45, .ref q52, .ref q59, .int (0 : Int32), .int (-1 : Int32), .int (0 : Int32), .int (0 : Int32), .int (0 : Int32), .ref q81, .ref q88, .ref q95, .ref q102, .ref q109, .ref q116, .ref q123, .ref q130, .int (0 : Int32), .int (0 : Int32), .int (0 : Int32), .ref q146, .int (-1 : Int32), .ref q213, .int (0 : Int32), .ref q223, .ref q230, .int (0 : Int32), .ref q240, .ref q247, .ref q254, .ref q261, .ref q268, .ref q275, .ref q282, .int (0 : Int32), .ref q292, .ref q299, .ref q306, .int (0 : Int32), .int (0 : Int32), .ref q319, .ref q326, .int (0 : Int32), .int (-1 : Int32), .int (0 : Int32), .int (0 : Int32), .int (0 : Int32), .int (0 : Int32), .int (0 : Int32), .null, .null, .null, .null, .null, .null, .null, .null, .null, .null, .null, .null, .null, .int 0, .null, .null, .null, .null, .null]) := cZ
  clear cZ
  refine Z_aload_n C dX12_init_489 0 rfl ?_
  refine Z_bipush C dX12_init_490 (v := (6 : Int32)) (by decide +kernel) ?_
  refine Y_newa (t := 0) (a0 := (6, .inl (fun _ => 0))) C hU b352 (List.mem_of_getElem? (i := 7) rfl) rfl rfl (fun _ _ q => q) (fun _ => rfl) (by decide +kernel) rfl (by decide +kernel) (Nat.le_of_ble_eq_true rfl) (Nat.le_of_ble_eq_true rfl) dX12_init_492 (fun q354 ω355 bZ eZ => ?_)
  have b356 := bZ
  clear bZ b352
  have cZ := eZ.trans c353
  have c357 := cZ
  clear cZ eZ
  show PR M 494 [(0, .ref h)] [.ref q354, .ref h] ω355 (33, 1328)
  refine Y_putF C hI pf_X12_init_181 b356 c357 rfl rfl (Nat.le_of_ble_eq_true rfl) dX12_init_494 (fun ω358 bZ cZ => ?_)
  have b359 := bZ
  clear bZ b356
  have c360 : ω358.2 h = .inr (12, [.int (0 : Int32), .int (0 : Int32), .int (0 : Int32), .ref q10, .ref q17, .ref q24, .ref q31, .ref q38, .ref q45, .ref q52, .ref q59, .int (0 : Int32), .int (-1 : Int32), .int (0 : Int32), .int (0 : Int32), .int (0 : Int32), .ref q81, .ref q88, .ref q95, .ref q102, .ref q109, .ref q116, .ref q123, .ref q130, .int (0 : Int32), .int (0 : Int32), .int (0 : Int32), .ref q146, .int (-1 : Int32), .ref q213, .int (0 : Int32), .ref q223, .ref q230, .int (0 : Int32), .ref q240, .ref q247, .ref q254, .ref q261, .ref q268, .ref q275, .ref q282, .int (0 : Int32), .ref q292, .ref q299, .ref q306, .int (0 : Int32), .int (0 : Int32), .ref q319, .ref q326, .int (0 : Int32), .int (-1 : Int32), .int (0 : Int32), .int (0 : Int32), .int (0 : Int32), .int (0 : Int32), .int (0 : Int32), .ref q354, .null, .null, .null, .null, .null, .null, .null, .null, .null, .null, .null, .null, .int 0, .null, .null, .null, .null, .null]) := cZ
  clear cZ
  refine Z_aload_n C dX12_init_497 0 rfl ?_
  refine Z_bipush C dX12_init_498 (v := (6 : Int32)) (by decide +kernel) ?_
  refine Y_newa (t := 0) (a0 := (6, .inl (fun _ => 0))) C hU b359 (List.mem_of_getElem? (i := 7) rfl) rfl rfl (fun _ _ q => q) (fun _ => rfl) (by decide +kernel) rfl (by decide +kernel) (Nat.le_of_ble_eq_true rfl) (Nat.le_of_ble_eq_true rfl) dX12_init_500 (fun q361 ω362 bZ eZ => ?_)
  have b363 : BT ω0 ω362 h [(q10, .inl (vC (mV M) 0, (6, .inl (fun _ => 0)))), (q17, .inl (vC (mV M) 0, (6, .inl (fun _ => 0)))), (q24, .inl (vC (mV M) 0, (6, .inl (fun _ => 0)))), (q31, .inl (vC (mV M) 0, (6, .inl (fun _ => 0)))), (q38, .inl (vC (mV M) 0, (6, .inl (fun _ => 0)))), (q45, .inl (vC (mV M) 0, (6, .inl (fun _ => 0)))), (q52, .inl (vC (mV M) 0, (24, .inl (fun _ => 0)))), (q59, .inl (vC (mV M) 0, (6, .inl (fun _ => 0)))), (q81, .inl (vC (mV M) 0, (100, .inl (fun _ => 0)))), (q88, .inl (vC (mV M) 0, (6, .inl (fun _ => 0)))), (q95, .inl (vC (mV M) 0, (60, .inl (fun _ => 0)))), (q102, .inl (vC (mV M) 0, (60, .inl (fun _ => 0)))), (q109, .inl (vC (mV M) 0, (60, .inl (fun _ => 0)))), (q116, .inl (vC (mV M) 0, (60, .inl (fun _ => 0)))), (q123, .inl (vC (mV M) 0, (600, .inl (fun _ => 0)))), (q130, .inl (vC (mV M) 0, (101, .inl (fun _ => 0)))), (q146, .inl (vC (mV M) 0, (19, .inl (upd (upd (upd (upd (upd (upd (upd (upd (upd (upd (upd (upd (upd (upd (upd (upd (upd (upd (upd (fun _ => 0) 0 (102 : Int32)) 1 (97 : Int32)) 2 (115 : Int32)) 3 (116 : Int32)) 4 (115 : Int32)) 5 (108 : Int32)) 6 (111 : Int32)) 7 (119 : Int32)) 8 (103 : Int32)) 9 (97 : Int32)) 10 (112 : Int32)) 11 (116 : Int32)) 12 (105 : Int32)) 13 (114 : Int32)) 14 (101 : Int32)) 15 (108 : Int32)) 16 (111 : Int32)) 17 (110 : Int32)) 18 (103 : Int32))))), (q213, .inl (vC (mV M) 2, (100, .inl (fun _ => 0)))), (q223, .inl (vC (mV M) 0, (6, .inl (fun _ => 0)))), (q230, .inl (vC (mV M) 0, (6, .inl (fun _ => 0)))), (q240, .inl (vC (mV M) 0, (6, .inl (fun _ => 0)))), (q247, .inl (vC (mV M) 0, (6, .inl (fun _ => 0)))), (q254, .inl (vC (mV M) 0, (6, .inl (fun _ => 0)))), (q261, .inl (vC (mV M) 0, (6, .inl (fun _ => 0)))), (q268, .inl (vC (mV M) 0, (6, .inl (fun _ => 0)))), (q275, .inl (vC (mV M) 0, (6, .inl (fun _ => 0)))), (q282, .inl (vC (mV M) 0, (6, .inl (fun _ => 0)))), (q292, .inl (vC (mV M) 0, (6, .inl (fun _ => 0)))), (q299, .inl (vC (mV M) 0, (6, .inl (fun _ => 0)))), (q306, .inl (vC (mV M) 0, (6, .inl (fun _ => 0)))), (q319, .inl (vC (mV M) 0, (10, .inl (fun _ => 0)))), (q326, .inl (vC (mV M) 0, (8, .inl (fun _ => 0)))), (q354, .inl (vC (mV M) 0, (6, .inl (fun _ => 0)))), (q361, .inl (vC (mV M) 0, (6, .inl (fun _ => 0))))] := bZ
  clear bZ b359
  have cZ := eZ.trans c360
  have c364 := cZ
  clear cZ eZ
  show PR M 502 [(0, .ref h)] [.ref q361, .ref h] ω362 (34, 1334)
  refine Y_putF C hI pf_X12_init_184 b363 c364 rfl rfl (Nat.le_of_ble_eq_true rfl) dX12_init_502 (fun ω365 bZ cZ => ?_)
  have b366 := bZ
  clear bZ b363
  have c367 : ω365.2 h = .inr (12, [.int (0 : Int32), .int (0 : Int32), .int (0 : Int32), .ref q10, .ref q17, .ref q24, .ref q31, .ref q38, .ref q45, .ref q52, .ref q59, .int (0 : Int32), .int (-1 : Int32), .int (0 : Int32), .int (0 : Int32), .int (0 : Int32), .ref q81, .ref q88, .ref q95, .ref q102, .ref q109, .ref q116, .ref q123, .ref q130, .int (0 : Int32), .int (0 : Int32), .int (0 : Int32), .ref q146, .int (-1 : Int32), .ref q213, .int (0 : Int32), .ref q223, .ref q230, .int (0 : Int32), .ref q240, .ref q247, .ref q254, .ref q261, .ref q268, .ref q275, .ref q282, .int (0 : Int32), .ref q292, .ref q299, .ref q306, .int (0 : Int32), .int (0 : Int32), .ref q319, .ref q326, .int (0 : Int32), .int (-1 : Int32), .int (0 : Int32), .int (0 : Int32), .int (0 : Int32), .int (0 : Int32), .int (0 : Int32), .ref q354, .ref q361, .null, .null, .null, .null, .null, .null, .null, .null, .null, .null, .null, .int 0, .null, .null, .null, .null, .null]) := cZ
  clear cZ
  refine Z_aload_n C dX12_init_505 0 rfl ?_
  refine Z_bipush C dX12_init_506 (v := (6 : Int32)) (by decide +kernel) ?_
  refine Y_newa (t := 0) (a0 := (6, .inl (fun _ => 0))) C hU b366 (List.mem_of_getElem? (i := 7) rfl) rfl rfl (fun _ _ q => q) (fun _ => rfl) (by decide +kernel) rfl (by decide +kernel) (Nat.le_of_ble_eq_true rfl) (Nat.le_of_ble_eq_true rfl) dX12_init_508 (fun q368 ω369 bZ eZ => ?_)
  have b370 := bZ
  clear bZ b366
  have cZ := eZ.trans c367
  have c371 := cZ
  clear cZ eZ
  show PR M 510 [(0, .ref h)] [.ref q368, .ref h] ω369 (35, 1340)
  refine Y_putF C hI pf_X12_init_187 b370 c371 rfl rfl (Nat.le_of_ble_eq_true rfl) dX12_init_510 (fun ω372 bZ cZ => ?_)
  have b373 := bZ
  clear bZ b370
  have c374 : ω372.2 h = .inr (12, [.int (0 : Int32), .int (0 : Int32), .int (0 : Int32), .ref q10, .ref q17, .ref q24, .ref q31, .ref q38, .ref q45, .ref q52, .ref q59, .int (0 : Int32), .int (-1 : Int32), .int (0 : Int32), .int (0 : Int32), .int (0 : Int32), .ref q81, .ref q88, .ref q95, .ref q102, .ref q109, .ref q116, .ref q123, .ref q130, .int (0 : Int32), .int (0 : Int32), .int (0 : Int32), .ref q146, .int (-1 : Int32), .ref q213, .int (0 : Int32), .ref q223, .ref q230, .int (0 : Int32), .ref q240, .ref q247, .ref q254, .ref q261, .ref q268, .ref q275, .ref q282, .int (0 : Int32), .ref q292, .ref q299, .ref q306, .int (0 : Int32), .int (0 : Int32), .ref q319, .ref q326, .int (0 : Int32), .int (-1 : Int32), .int (0 : Int32), .int (0 : Int32), .int (0 : Int32), .int (0 : Int32), .int (0 : Int32), .ref q354, .ref q361, .ref q368, .null, .null, .null, .null, .null, .null, .null, .null, .null, .null, .int 0, .null, .null, .null, .null, .null]) := cZ
  clear cZ
  refine Z_aload_n C dX12_init_513 0 rfl ?_
  refine Z_bipush C dX12_init_514 (v := (6 : Int32)) (by decide +kernel) ?_
  refine Y_newa (t := 0) (a0 := (6, .inl (fun _ => 0))) C hU b373 (List.mem_of_getElem? (i := 7) rfl) rfl rfl (fun _ _ q => q) (fun _ => rfl) (by decide +kernel) rfl (by decide +kernel) (Nat.le_of_ble_eq_true rfl) (Nat.le_of_ble_eq_true rfl) dX12_init_516 (fun q375 ω376 bZ eZ => ?_)
  have b377 := bZ
  clear bZ b373
  have cZ := eZ.trans c374
  have c378 := cZ
  clear cZ eZ
  show PR M 518 [(0, .ref h)] [.ref q375, .ref h] ω376 (36, 1346)
  refine Y_putF C hI pf_X12_init_190 b377 c378 rfl rfl (Nat.le_of_ble_eq_true rfl) dX12_init_518 (fun ω379 bZ cZ => ?_)
  have b380 : BT ω0 ω379 h [(q10, .inl (vC (mV M) 0, (6, .inl (fun _ => 0)))), (q17, .inl (vC (mV M) 0, (6, .inl (fun _ => 0)))), (q24, .inl (vC (mV M) 0, (6, .inl (fun _ => 0)))), (q31, .inl (vC (mV M) 0, (6, .inl (fun _ => 0)))), (q38, .inl (vC (mV M) 0, (6, .inl (fun _ => 0)))), (q45, .inl (vC (mV M) 0, (6, .inl (fun _ => 0)))), (q52, .inl (vC (mV M) 0, (24, .inl (fun _ => 0)))), (q59, .inl (vC (mV M) 0, (6, .inl (fun _ => 0)))), (q81, .inl (vC (mV M) 0, (100, .inl (fun _ => 0)))), (q88, .inl (vC (mV M) 0, (6, .inl (fun _ => 0)))), (q95, .inl (vC (mV M) 0, (60, .inl (fun _ => 0)))), (q102, .inl (vC (mV M) 0, (60, .inl (fun _ => 0)))), (q109, .inl (vC (mV M) 0, (60, .inl (fun _ => 0)))), (q116, .inl (vC (mV M) 0, (60, .inl (fun _ => 0)))), (q123, .inl (vC (mV M) 0, (600, .inl (fun _ => 0)))), (q130, .inl (vC (mV M) 0, (101, .inl (fun _ => 0)))), (q146, .inl (vC (mV M) 0, (19, .inl (upd (upd (upd (upd (upd (upd (upd (upd (upd (upd (upd (upd (upd (upd (upd (upd (upd (upd (upd (fun _ => 0) 0 (102 : Int32)) 1 (97 : Int32)) 2 (115 : Int32)) 3 (116 : Int32)) 4 (115 : Int32)) 5 (108 : Int32)) 6 (111 : Int32)) 7 (119 : Int32)) 8 (103 : Int32)) 9 (97 : Int32)) 10 (112 : Int32)) 11 (116 : Int32)) 12 (105 : Int32)) 13 (114 : Int32)) 14 (101 : Int32)) 15 (108 : Int32)) 16 (111 : Int32)) 17 (110 : Int32)) 18 (103 : Int32))))), (q213, .inl (vC (mV M) 2, (100, .inl (fun _ => 0)))), (q223, .inl (vC (mV M) 0, (6, .inl (fun _ => 0)))), (q230, .inl (vC (mV M) 0, (6, .inl (fun _ => 0)))), (q240, .inl (vC (mV M) 0, (6, .inl (fun _ => 0)))), (q247, .inl (vC (mV M) 0, (6, .inl (fun _ => 0)))), (q254, .inl (vC (mV M) 0, (6, .inl (fun _ => 0)))), (q261, .inl (vC (mV M) 0, (6, .inl (fun _ => 0)))), (q268, .inl (vC (mV M) 0, (6, .inl (fun _ => 0)))), (q275, .inl (vC (mV M) 0, (6, .inl (fun _ => 0)))), (q282, .inl (vC (mV M) 0, (6, .inl (fun _ => 0)))), (q292, .inl (vC (mV M) 0, (6, .inl (fun _ => 0)))), (q299, .inl (vC (mV M) 0, (6, .inl (fun _ => 0)))), (q306, .inl (vC (mV M) 0, (6, .inl (fun _ => 0)))), (q319, .inl (vC (mV M) 0, (10, .inl (fun _ => 0)))), (q326, .inl (vC (mV M) 0, (8, .inl (fun _ => 0)))), (q354, .inl (vC (mV M) 0, (6, .inl (fun _ => 0)))), (q361, .inl (vC (mV M) 0, (6, .inl (fun _ => 0)))), (q368, .inl (vC (mV M) 0, (6, .inl (fun _ => 0)))), (q375, .inl (vC (mV M) 0, (6, .inl (fun _ => 0))))] := bZ
  clear bZ b377
  have c381 : ω379.2 h = .inr (12, [.int (0 : Int32), .int (0 : Int32), .int (0 : Int32), .ref q10, .ref q17, .ref q24, .ref q31, .ref q38, .ref q45, .ref q52, .ref q59, .int (0 : Int32), .int (-1 : Int32), .int (0 : Int32), .int (0 : Int32), .int (0 : Int32), .ref q81, .ref q88, .ref q95, .ref q102, .ref q109, .ref q116, .ref q123, .ref q130, .int (0 : Int32), .int (0 : Int32), .int (0 : Int32), .ref q146, .int (-1 : Int32), .ref q213, .int (0 : Int32), .ref q223, .ref q230, .int (0 : Int32), .ref q240, .ref q247, .ref q254, .ref q261, .ref q268, .ref q275, .ref q282, .int (0 : Int32), .ref q292, .ref q299, .ref q306, .int (0 : Int32), .int (0 : Int32), .ref q319, .ref q326, .int (0 : Int32), .int (-1 : Int32), .int (0 : Int32), .int (0 : Int32), .int (0 : Int32), .int (0 : Int32), .int (0 : Int32), .ref q354, .ref q361, .ref q368, .ref q375, .null, .null, .null, .null, .null, .null, .null, .null, .null, .int 0, .null, .null, .null, .null, .null]) := cZ
  clear cZ
  refine Z_aload_n C dX12_init_521 0 rfl ?_
  refine Z_bipush C dX12_init_522 (v := (6 : Int32)) (by decide +kernel) ?_
  refine Y_newa (t := 0) (a0 := (6, .inl (fun _ => 0))) C hU b380 (List.mem_of_getElem? (i := 7) rfl) rfl rfl (fun _ _ q => q) (fun _ => rfl) (by decide +kernel) rfl (by decide +kernel) (Nat.le_of_ble_eq_true rfl) (Nat.le_of_ble_eq_true rfl) dX12_init_524 (fun q382 ω383 bZ eZ => ?_)
  have b384 := bZ
  clear bZ b380
  have cZ := eZ.trans c381
  have c385 := cZ
  clear cZ eZ
  show PR M 526 [(0, .ref h)] [.ref q382, .ref h] ω383 (37, 1352)
  refine Y_putF C hI pf_X12_init_193 b384 c385 rfl rfl (Nat.le_of_ble_eq_true rfl) dX12_init_526 (fun ω386 bZ cZ => ?_)
  have b387 := bZ
  clear bZ b384
  have c388 : ω386.2 h = .inr (12, [.int (0 : Int32), .int (0 : Int32), .int (0 : Int32), .ref q10, .ref q17, .ref q24, .ref q31, .ref q38, .ref q45, .ref q52, .ref q59, .int (0 : Int32), .int (-1 : Int32), .int (0 : Int32), .int (0 : Int32), .int (0 : Int32), .ref q81, .ref q88, .ref q95, .ref q102, .ref q109, .ref q116, .ref q123, .ref q130, .int (0 : Int32), .int (0 : Int32), .int (0 : Int32), .ref q146, .int (-1 : Int32), .ref q213, .int (0 : Int32), .ref q223, .ref q230, .int (0 : Int32), .ref q240, .ref q247, .ref q254, .ref q261, .ref q268, .ref q275, .ref q282, .int (0 : Int32), .ref q292, .ref q299, .ref q306, .int (0 : Int32), .int (0 : Int32), .ref q319, .ref q326, .int (0 : Int32), .int (-1 : Int32), .int (0 : Int32), .int (0 : Int32), .int (0 : Int32), .int (0 : Int32), .int (0 : Int32), .ref q354, .ref q361, .ref q368, .ref q375, .ref q382, .null, .null, .null, .null, .null, .null, .null, .null, .int 0, .null, .null, .null, .null, .null]) := cZ
  clear cZ
  refine Z_aload_n C dX12_init_529 0 rfl ?_
  refine Z_bipush C dX12_init_530 (v := (6 : Int32)) (by decide +kernel) ?_
  refine Y_newa (t := 0) (a0 := (6, .inl (fun _ => 0))) C hU b387 (List.mem_of_getElem? (i := 7) rfl) rfl rfl (fun _ _ q => q) (fun _ => rfl) (by decide +kernel) rfl (by decide +kernel) (Nat.le_of_ble_eq_true rfl) (Nat.le_of_ble_eq_true rfl) dX12_init_532 (fun q389 ω390 bZ eZ => ?_)
  have b391 := bZ
  clear bZ b387
  have cZ := eZ.trans c388
  have c392 := cZ
  clear cZ eZ
  show PR M 534 [(0, .ref h)] [.ref q389, .ref h] ω390 (38, 1358)
  refine Y_putF C hI pf_X12_init_196 b391 c392 rfl rfl (Nat.le_of_ble_eq_true rfl) dX12_init_534 (fun ω393 bZ cZ => ?_)
  have b394 := bZ
  clear bZ b391
  have c395 : ω393.2 h = .inr (12, [.int (0 : Int32), .int (0 : Int32), .int (0 : Int32), .ref q10, .ref q17, .ref q24, .ref q31, .ref q38, .ref q45, .ref q52, .ref q59, .int (0 : Int32), .int (-1 : Int32), .int (0 : Int32), .int (0 : Int32), .int (0 : Int32), .ref q81, .ref q88, .ref q95, .ref q102, .ref q109, .ref q116, .ref q123, .ref q130, .int (0 : Int32), .int (0 : Int32), .int (0 : Int32), .ref q146, .int (-1 : Int32), .ref q213, .int (0 : Int32), .ref q223, .ref q230, .int (0 : Int32), .ref q240, .ref q247, .ref q254, .ref q261, .ref q268, .ref q275, .ref q282, .int (0 : Int32), .ref q292, .ref q299, .ref q306, .int (0 : Int32), .int (0 : Int32), .ref q319, .ref q326, .int (0 : Int32), .int (-1 : Int32), .int (0 : Int32), .int (0 : Int32), .int (0 : Int32), .int (0 : Int32), .int (0 : Int32), .ref q354, .ref q361, .ref q368, .ref q375, .ref q382, .ref q389, .null, .null, .null, .null, .null, .null, .null, .int 0, .null, .null, .null, .null, .null]) := cZ
  clear cZ
  refine Z_aload_n C dX12_init_537 0 rfl ?_
  refine Z_bipush C dX12_init_538 (v := (6 : Int32)) (by decide +kernel) ?_
  refine Y_newa (t := 0) (a0 := (6, .inl (fun _ => 0))) C hU b394 (List.mem_of_getElem? (i := 7) rfl) rfl rfl (fun _ _ q => q) (fun _ => rfl) (by decide +kernel) rfl (by decide +kernel) (Nat.le_of_ble_eq_true rfl) (Nat.le_of_ble_eq_true rfl) dX12_init_540 (fun q396 ω397 bZ eZ => ?_)
  have b398 : BT ω0 ω397 h [(q10, .inl (vC (mV M) 0, (6, .inl (fun _ => 0)))), (q17, .inl (vC (mV M) 0, (6, .inl (fun _ => 0)))), (q24, .inl (vC (mV M) 0, (6, .inl (fun _ => 0)))), (q31, .inl (vC (mV M) 0, (6, .inl (fun _ => 0)))), (q38, .inl (vC (mV M) 0, (6, .inl (fun _ => 0)))), (q45, .inl (vC (mV M) 0, (6, .inl (fun _ => 0)))), (q52, .inl (vC (mV M) 0, (24, .inl (fun _ => 0)))), (q59, .inl (vC (mV M) 0, (6, .inl (fun _ => 0)))), (q81, .inl (vC (mV M) 0, (100, .inl (fun _ => 0)))), (q88, .inl (vC (mV M) 0, (6, .inl (fun _ => 0)))), (q95, .inl (vC (mV M) 0, (60, .inl (fun _ => 0)))), (q102, .inl (vC (mV M) 0, (60, .inl (fun _ => 0)))), (q109, .inl (vC (mV M) 0, (60, .inl (fun _ => 0)))), (q116, .inl (vC (mV M) 0, (60, .inl (fun _ => 0)))), (q123, .inl (vC (mV M) 0, (600, .inl (fun _ => 0)))), (q130, .inl (vC (mV M) 0, (101, .inl (fun _ => 0)))), (q146, .inl (vC (mV M) 0, (19, .inl (upd (upd (upd (upd (upd (upd (upd (upd (upd (upd (upd (upd (upd (upd (upd (upd (upd (upd (upd (fun _ => 0) 0 (102 : Int32)) 1 (97 : Int32)) 2 (115 : Int32)) 3 (116 : Int32)) 4 (115 : Int32)) 5 (108 : Int32)) 6 (111 : Int32)) 7 (119 : Int32)) 8 (103 : Int32)) 9 (97 : Int32)) 10 (112 : Int32)) 11 (116 : Int32)) 12 (105 : Int32)) 13 (114 : Int32)) 14 (101 : Int32)) 15 (108 : Int32)) 16 (111 : Int32)) 17 (110 : Int32)) 18 (103 : Int32))))), (q213, .inl (vC (mV M) 2, (100, .inl (fun _ => 0)))), (q223, .inl (vC (mV M) 0, (6, .inl (fun _ => 0)))), (q230, .inl (vC (mV M) 0, (6, .inl (fun _ => 0)))), (q240, .inl (vC (mV M) 0, (6, .inl (fun _ => 0)))), (q247, .inl (vC (mV M) 0, (6, .inl (fun _ => 0)))), (q254, .inl (vC (mV M) 0, (6, .inl (fun _ => 0)))), (q261, .inl (vC (mV M) 0, (6, .inl (fun _ => 0)))), (q268, .inl (vC (mV M) 0, (6, .inl (fun _ => 0)))), (q275, .inl (vC (mV M) 0, (6, .inl (fun _ => 0)))), (q282, .inl (vC (mV M) 0, (6, .inl (fun _ => 0)))), (q292, .inl (vC (mV M) 0, (6, .inl (fun _ => 0)))), (q299, .inl (vC (mV M) 0, (6, .inl (fun _ => 0)))), (q306, .inl (vC (mV M) 0, (6, .inl (fun _ => 0)))), (q319, .inl (vC (mV M) 0, (10, .inl (fun _ => 0)))), (q326, .inl (vC (mV M) 0, (8, .inl (fun _ => 0)))), (q354, .inl (vC (mV M) 0, (6, .inl (fun _ => 0)))), (q361, .inl (vC (mV M) 0, (6, .inl (fun _ => 0)))), (q368, .inl (vC (mV M) 0, (6, .inl (fun _ => 0)))), (q375, .inl (vC (mV M) 0, (6, .inl (fun _ => 0)))), (q382, .inl (vC (mV M) 0, (6, .inl (fun _ => 0)))), (q389, .inl (vC (mV M) 0, (6, .inl (fun _ => 0)))), (q396, .inl (vC (mV M) 0, (6, .inl (fun _ => 0))))] := bZ
  clear bZ b394
  have cZ := eZ.trans c395
  have c399 := cZ
  clear cZ eZ
  show PR M 542 [(0, .ref h)] [.ref q396, .ref h] ω397 (39, 1364)
  refine Y_putF C hI pf_X12_init_199 b398 c399 rfl rfl (Nat.le_of_ble_eq_true rfl) dX12_init_542 (fun ω400 bZ cZ => ?_)
  have b401 := bZ
  clear bZ b398
  have c402 : ω400.2 h = .inr (12, [.int (0 : Int32), .int (0 : Int32), .int (0 : Int32), .ref q10, .ref q17, .ref q24, .ref q31, .ref q38, .ref q45, .ref q52, .ref q59, .int (0 : Int32), .int (-1 : Int32), .int (0 : Int32), .int (0 : Int32), .int (0 : Int32), .ref q81, .ref q88, .ref q95, .ref q102, .ref q109, .ref q116, .ref q123, .ref q130, .int (0 : Int32), .int (0 : Int32), .int (0 : Int32), .ref q146, .int (-1 : Int32), .ref q213, .int (0 : Int32), .ref q223, .ref q230, .int (0 : Int32), .ref q240, .ref q247, .ref q254, .ref q261, .ref q268, .ref q275, .ref q282, .int (0 : Int32), .ref q292, .ref q299, .ref q306, .int (0 : Int32), .int (0 : Int32), .ref q319, .ref q326, .int (0 : Int32), .int (-1 : Int32), .int (0 : Int32), .int (0 : Int32), .int (0 : Int32), .int (0 : Int32), .int (0 : Int32), .ref q354, .ref q361, .ref q368, .ref q375, .ref q382, .ref q389, .ref q396, .null, .null, .null, .null, .null, .null, .int 0, .null, .null, .null, .null, .null]) := cZ
  clear cZ
  refine Z_aload_n C dX12_init_545 0 rfl ?_
  refine Z_bipush C dX12_init_546 (v := (24 : Int32)) (by decide +kernel) ?_
  refine Y_newa (t := 0) (a0 := (24, .inl (fun _ => 0))) C hU b401 (List.mem_of_getElem? (i := 7) rfl) rfl rfl (fun _ _ q => q) (fun _ => rfl) (by decide +kernel) rfl (by decide +kernel) (Nat.le_of_ble_eq_true rfl) (Nat.le_of_ble_eq_true rfl) dX12_init_548 (fun q403 ω404 bZ eZ => ?_)
  have b405 := bZ
  clear bZ b401
  have cZ := eZ.trans c402
  have c406 := cZ
  clear cZ eZ
  show PR M 550 [(0, .ref h)] [.ref q403, .ref h] ω404 (40, 1388)
  refine Y_putF C hI pf_X12_init_202 b405 c406 rfl rfl (Nat.le_of_ble_eq_true rfl) dX12_init_550 (fun ω407 bZ cZ => ?_)
  have b408 := bZ
  clear bZ b405
  have c409 : ω407.2 h = .inr (12, [.int (0 : Int32), .int (0 : Int32), .int (0 : Int32), .ref q10, .ref q17, .ref q24, .ref q31, .ref q38, .ref q45, .ref q52, .ref q59, .int (0 : Int32), .int (-1 : Int32), .int (0 : Int32), .int (0 : Int32), .int (0 : Int32), .ref q81, .ref q88, .ref q95, .ref q102, .ref q109, .ref q116, .ref q123, .ref q130, .int (0 : Int32), .int (0 : Int32), .int (0 : Int32), .ref q146, .int (-1 : Int32), .ref q213, .int (0 : Int32), .ref q223, .ref q230, .int (0 : Int32), .ref q240, .ref q247, .ref q254, .ref q261, .ref q268, .ref q275, .ref q282, .int (0 : Int32), .ref q292, .ref q299, .ref q306, .int (0 : Int32), .int (0 : Int32), .ref q319, .ref q326, .int (0 : Int32), .int (-1 : Int32), .int (0 : Int32), .int (0 : Int32), .int (0 : Int32), .int (0 : Int32), .int (0 : Int32), .ref q354, .ref q361, .ref q368, .ref q375, .ref q382, .ref q389, .ref q396, .ref q403, .null, .null, .null, .null, .null, .int 0, .null, .null, .null, .null, .null]) := cZ
  clear cZ
  refine Z_aload_n C dX12_init_553 0 rfl ?_
  refine Z_bipush C dX12_init_554 (v := (6 : Int32)) (by decide +kernel) ?_
  refine Y_newa (t := 0) (a0 := (6, .inl (fun _ => 0))) C hU b408 (List.mem_of_getElem? (i := 7) rfl) rfl rfl (fun _ _ q => q) (fun _ => rfl) (by decide +kernel) rfl (by decide +kernel) (Nat.le_of_ble_eq_true rfl) (Nat.le_of_ble_eq_true rfl) dX12_init_556 (fun q410 ω411 bZ eZ => ?_)
  have b412 := bZ
  clear bZ b408
  have cZ := eZ.trans c409
  have c413 := cZ
  clear cZ eZ
  show PR M 558 [(0, .ref h)] [.ref q410, .ref h] ω411 (41, 1394)
  refine Y_putF C hI pf_X12_init_205 b412 c413 rfl rfl (Nat.le_of_ble_eq_true rfl) dX12_init_558 (fun ω414 bZ cZ => ?_)
  have b415 : BT ω0 ω414 h [(q10, .inl (vC (mV M) 0, (6, .inl (fun _ => 0)))), (q17, .inl (vC (mV M) 0, (6, .inl (fun _ => 0)))), (q24, .inl (vC (mV M) 0, (6, .inl (fun _ => 0)))), (q31, .inl (vC (mV M) 0, (6, .inl (fun _ => 0)))), (q38, .inl (vC (mV M) 0, (6, .inl (fun _ => 0)))), (q45, .inl (vC (mV M) 0, (6, .inl (fun _ => 0)))), (q52, .inl (vC (mV M) 0, (24, .inl (fun _ => 0)))), (q59, .inl (vC (mV M) 0, (6, .inl (fun _ => 0)))), (q81, .inl (vC (mV M) 0, (100, .inl (fun _ => 0)))), (q88, .inl (vC (mV M) 0, (6, .inl (fun _ => 0)))), (q95, .inl (vC (mV M) 0, (60, .inl (fun _ => 0)))), (q102, .inl (vC (mV M) 0, (60, .inl (fun _ => 0)))), (q109, .inl (vC (mV M) 0, (60, .inl (fun _ => 0)))), (q116, .inl (vC (mV M) 0, (60, .inl (fun _ => 0)))), (q123, .inl (vC (mV M) 0, (600, .inl (fun _ => 0)))), (q130, .inl (vC (mV M) 0, (101, .inl (fun _ => 0)))), (q146, .inl (vC (mV M) 0, (19, .inl (upd (upd (upd (upd (upd (upd (upd (upd (upd (upd (upd (upd (upd (upd (upd (upd (upd (upd (upd (fun _ => 0) 0 (102 : Int32)) 1 (97 : Int32)) 2 (115 : Int32)) 3 (116 : Int32)) 4 (115 : Int32)) 5 (108 : Int32)) 6 (111 : Int32)) 7 (119 : Int32)) 8 (103 : Int32)) 9 (97 : Int32)) 10 (112 : Int32)) 11 (116 : Int32)) 12 (105 : Int32)) 13 (114 : Int32)) 14 (101 : Int32)) 15 (108 : Int32)) 16 (111 : Int32)) 17 (110 : Int32)) 18 (103 : Int32))))), (q213, .inl (vC (mV M) 2, (100, .inl (fun _ => 0)))), (q223, .inl (vC (mV M) 0, (6, .inl (fun _ => 0)))), (q230, .inl (vC (mV M) 0, (6, .inl (fun _ => 0)))), (q240, .inl (vC (mV M) 0, (6, .inl (fun _ => 0)))), (q247, .inl (vC (mV M) 0, (6, .inl (fun _ => 0)))), (q254, .inl (vC (mV M) 0, (6, .inl (fun _ => 0)))), (q261, .inl (vC (mV M) 0, (6, .inl (fun _ => 0)))), (q268, .inl (vC (mV M) 0, (6, .inl (fun _ => 0)))), (q275, .inl (vC (mV M) 0, (6, .inl (fun _ => 0)))), (q282, .inl (vC (mV M) 0, (6, .inl (fun _ => 0)))), (q292, .inl (vC (mV M) 0, (6, .inl (fun _ => 0)))), (q299, .inl (vC (mV M) 0, (6, .inl (fun _ => 0)))), (q306, .inl (vC (mV M) 0, (6, .inl (fun _ => 0)))), (q319, .inl (vC (mV M) 0, (10, .inl (fun _ => 0)))), (q326, .inl (vC (mV M) 0, (8, .inl (fun _ => 0)))), (q354, .inl (vC (mV M) 0, (6, .inl (fun _ => 0)))), (q361, .inl (vC (mV M) 0, (6, .inl (fun _ => 0)))), (q368, .inl (vC (mV M) 0, (6, .inl (fun _ => 0)))), (q375, .inl (vC (mV M) 0, (6, .inl (fun _ => 0)))), (q382, .inl (vC (mV M) 0, (6, .inl (fun _ => 0)))), (q389, .inl (vC (mV M) 0, (6, .inl (fun _ => 0)))), (q396, .inl (vC (mV M) 0, (6, .inl (fun _ => 0)))), (q403, .inl (vC (mV M) 0, (24, .inl (fun _ => 0)))), (q410, .inl (vC (mV M) 0, (6, .inl (fun _ => 0))))] := bZ
  clear bZ b412
  have c416 : ω414.2 h = .inr (12, [.int (0 : Int32), .int (0 : Int32), .int (0 : Int32), .ref q10, .ref q17, .ref q24, .ref q31, .ref q38, .ref q45, .ref q52, .ref q59, .int (0 : Int32), .int (-1 : Int32), .int (0 : Int32), .int (0 : Int32), .int (0 : Int32), .ref q81, .ref q88, .ref q95, .ref q102, .ref q109, .ref q116, .ref q123, .ref q130, .int (0 : Int32), .int (0 : Int32), .int (0 : Int32), .ref q146, .int (-1 : Int32), .ref q213, .int (0 : Int32), .ref q223, .ref q230, .int (0 : Int32), .ref q240, .ref q247, .ref q254, .ref q261, .ref q268, .ref q275, .ref q282, .int (0 : Int32), .ref q292, .ref q299, .ref q306, .int (0 : Int32), .int (0 : Int32), .ref q319, .ref q326, .int (0 : Int32), .int (-1 : Int32), .int (0 : Int32), .int (0 : Int32), .int (0 : Int32), .int (0 : Int32), .int (0 : Int32), .ref q354, .ref q361, .ref q368, .ref q375, .ref q382, .ref q389, .ref q396, .ref q403, .ref q410, .null, .null, .null, .null, .int 0, .null, .null, .null, .null, .null]) := cZ
  clear cZ
  refine Z_aload_n C dX12_init_561 0 rfl ?_
  refine Z_bipush C dX12_init_562 (v := (6 : Int32)) (by decide +kernel) ?_
  refine Y_newa (t := 0) (a0 := (6, .inl (fun _ => 0))) C hU b415 (List.mem_of_getElem? (i := 7) rfl) rfl rfl (fun _ _ q => q) (fun _ => rfl) (by decide +kernel) rfl (by decide +kernel) (Nat.le_of_ble_eq_true rfl) (Nat.le_of_ble_eq_true rfl) dX12_init_564 (fun q417 ω418 bZ eZ => ?_)
  have b419 := bZ
  clear bZ b415
  have cZ := eZ.trans c416
  have c420 := cZ
  clear cZ eZ
  show PR M 566 [(0, .ref h)] [.ref q417, .ref h] ω418 (42, 1400)
  refine Y_putF C hI pf_X12_init_208 b419 c420 rfl rfl (Nat.le_of_ble_eq_true rfl) dX12_init_566 (fun ω421 bZ cZ => ?_)
  have b422 := bZ
  clear bZ b419
  have c423 : ω421.2 h = .inr (12, [.int (0 : Int32), .int (0 : Int32), .int (0 : Int32), .ref q10, .ref q17, .ref q24, .ref q31, .ref q38, .ref q45, .ref q52, .ref q59, .int (0 : Int32), .int (-1 : Int32), .int (0 : Int32), .int (0 : Int32), .int (0 : Int32), .ref q81, .ref q88, .ref q95, .ref q102, .ref q109, .ref q116, .ref q123, .ref q130, .int (0 : Int32), .int (0 : Int32), .int (0 : Int32), .ref q146, .int (-1 : Int32), .ref q213, .int (0 : Int32), .ref q223, .ref q230, .int (0 : Int32), .ref q240, .ref q247, .ref q254, .ref q261, .ref q268, .ref q275, .ref q282, .int (0 : Int32), .ref q292, .ref q299, .ref q306, .int (0 : Int32), .int (0 : Int32), .ref q319, .ref q326, .int (0 : Int32), .int (-1 : Int32), .int (0 : Int32), .int (0 : Int32), .int (0 : Int32), .int (0 : Int32), .int (0 : Int32), .ref q354, .ref q361, .ref q368, .ref q375, .ref q382, .ref q389, .ref q396, .ref q403, .ref q410, .ref q417, .null, .null, .null, .int 0, .null, .null, .null, .null, .null]) := cZ
  clear cZ
  refine Z_aload_n C dX12_init_569 0 rfl ?_
  refine Z_bipush C dX12_init_570 (v := (6 : Int32)) (by decide +kernel) ?_
  refine Y_newa (t := 0) (a0 := (6, .inl (fun _ => 0))) C hU b422 (List.mem_of_getElem? (i := 7) rfl) rfl rfl (fun _ _ q => q) (fun _ => rfl) (by decide +kernel) rfl (by decide +kernel) (Nat.le_of_ble_eq_true rfl) (Nat.le_of_ble_eq_true rfl) dX12_init_572 (fun q424 ω425 bZ eZ => ?_)
  have b426 := bZ
  clear bZ b422
  have cZ := eZ.trans c423
  have c427 := cZ
  clear cZ eZ
  show PR M 574 [(0, .ref h)] [.ref q424, .ref h] ω425 (43, 1406)
  refine Y_putF C hI pf_X12_init_211 b426 c427 rfl rfl (Nat.le_of_ble_eq_true rfl) dX12_init_574 (fun ω428 bZ cZ => ?_)
  have b429 := bZ
  clear bZ b426
  have c430 : ω428.2 h = .inr (12, [.int (0 : Int32), .int (0 : Int32), .int (0 : Int32), .ref q10, .ref q17, .ref q24, .ref q31, .ref q38, .ref q45, .ref q52, .ref q59, .int (0 : Int32), .int (-1 : Int32), .int (0 : Int32), .int (0 : Int32), .int (0 : Int32), .ref q81, .ref q88, .ref q95, .ref q102, .ref q109, .ref q116, .ref q123, .ref q130, .int (0 : Int32), .int (0 : Int32), .int (0 : Int32), .ref q146, .int (-1 : Int32), .ref q213, .int (0 : Int32), .ref q223, .ref q230, .int (0 : Int32), .ref q240, .ref q247, .ref q254, .ref q261, .ref q268, .ref q275, .ref q282, .int (0 : Int32), .ref q292, .ref q299, .ref q306, .int (0 : Int32), .int (0 : Int32), .ref q319, .ref q326, .int (0 : Int32), .int (-1 : Int32), .int (0 : Int32), .int (0 : Int32), .int (0 : Int32), .int (0 : Int32), .int (0 : Int32), .ref q354, .ref q361, .ref q368, .ref q375, .ref q382, .ref q389, .ref q396, .ref q403, .ref q410, .ref q417, .ref q424, .null, .null, .int 0, .null, .null, .null, .null, .null]) := cZ
  clear cZ
  refine Z_aload_n C dX12_init_577 0 rfl ?_
  refine Z_bipush C dX12_init_578 (v := (10 : Int32)) (by decide +kernel) ?_
  refine Y_newa (t := 0) (a0 := (10, .inl (fun _ => 0))) C hU b429 (List.mem_of_getElem? (i := 7) rfl) rfl rfl (fun _ _ q => q) (fun _ => rfl) (by decide +kernel) rfl (by decide +kernel) (Nat.le_of_ble_eq_true rfl) (Nat.le_of_ble_eq_true rfl) dX12_init_580 (fun q431 ω432 bZ eZ => ?_)
  have b433 : BT ω0 ω432 h [(q10, .inl (vC (mV M) 0, (6, .inl (fun _ => 0)))), (q17, .inl (vC (mV M) 0, (6, .inl (fun _ => 0)))), (q24, .inl (vC (mV M) 0, (6, .inl (fun _ => 0)))), (q31, .inl (vC (mV M) 0, (6, .inl (fun _ => 0)))), (q38, .inl (vC (mV M) 0, (6, .inl (fun _ => 0)))), (q45, .inl (vC (mV M) 0, (6, .inl (fun _ => 0)))), (q52, .inl (vC (mV M) 0, (24, .inl (fun _ => 0)))), (q59, .inl (vC (mV M) 0, (6, .inl (fun _ => 0)))), (q81, .inl (vC (mV M) 0, (100, .inl (fun _ => 0)))), (q88, .inl (vC (mV M) 0, (6, .inl (fun _ => 0)))), (q95, .inl (vC (mV M) 0, (60, .inl (fun _ => 0)))), (q102, .inl (vC (mV M) 0, (60, .inl (fun _ => 0)))), (q109, .inl (vC (mV M) 0, (60, .inl (fun _ => 0)))), (q116, .inl (vC (mV M) 0, (60, .inl (fun _ => 0)))), (q123, .inl (vC (mV M) 0, (600, .inl (fun _ => 0)))), (q130, .inl (vC (mV M) 0, (101, .inl (fun _ => 0)))), (q146, .inl (vC (mV M) 0, (19, .inl (upd (upd (upd (upd (upd (upd (upd (upd (upd (upd (upd (upd (upd (upd (upd (upd (upd (upd (upd (fun _ => 0) 0 (102 : Int32)) 1 (97 : Int32)) 2 (115 : Int32)) 3 (116 : Int32)) 4 (115 : Int32)) 5 (108 : Int32)) 6 (111 : Int32)) 7 (119 : Int32)) 8 (103 : Int32)) 9 (97 : Int32)) 10 (112 : Int32)) 11 (116 : Int32)) 12 (105 : Int32)) 13 (114 : Int32)) 14 (101 : Int32)) 15 (108 : Int32)) 16 (111 : Int32)) 17 (110 : Int32)) 18 (103 : Int32))))), (q213, .inl (vC (mV M) 2, (100, .inl (fun _ => 0)))), (q223, .inl (vC (mV M) 0, (6, .inl (fun _ => 0)))), (q230, .inl (vC (mV M) 0, (6, .inl (fun _ => 0)))), (q240, .inl (vC (mV M) 0, (6, .inl (fun _ => 0)))), (q247, .inl (vC (mV M) 0, (6, .inl (fun _ => 0)))), (q254, .inl (vC (mV M) 0, (6, .inl (fun _ => 0)))), (q261, .inl (vC (mV M) 0, (6, .inl (fun _ => 0)))), (q268, .inl (vC (mV M) 0, (6, .inl (fun _ => 0)))), (q275, .inl (vC (mV M) 0, (6, .inl (fun _ => 0)))), (q282, .inl (vC (mV M) 0, (6, .inl (fun _ => 0)))), (q292, .inl (vC (mV M) 0, (6, .inl (fun _ => 0)))), (q299, .inl (vC (mV M) 0, (6, .inl (fun _ => 0)))), (q306, .inl (vC (mV M) 0, (6, .inl (fun _ => 0)))), (q319, .inl (vC (mV M) 0, (10, .inl (fun _ => 0)))), (q326, .inl (vC (mV M) 0, (8, .inl (fun _ => 0)))), (q354, .inl (vC (mV M) 0, (6, .inl (fun _ => 0)))), (q361, .inl (vC (mV M) 0, (6, .inl (fun _ => 0)))), (q368, .inl (vC (mV M) 0, (6, .inl (fun _ => 0)))), (q375, .inl (vC (mV M) 0, (6, .inl (fun _ => 0)))), (q382, .inl (vC (mV M) 0, (6, .inl (fun _ => 0)))), (q389, .inl (vC (mV M) 0, (6, .inl (fun _ => 0)))), (q396, .inl (vC (mV M) 0, (6, .inl (fun _ => 0)))), (q403, .inl (vC (mV M) 0, (24, .inl (fun _ => 0)))), (q410, .inl (vC (mV M) 0, (6, .inl (fun _ => 0)))), (q417, .inl (vC (mV M) 0, (6, .inl (fun _ => 0)))), (q424, .inl (vC (mV M) 0, (6, .inl (fun _ => 0)))), (q431, .inl (vC (mV M) 0, (10, .inl (fun _ => 0))))] := bZ
  clear bZ b429
  have cZ := eZ.trans c430
  have c434 := cZ
  clear cZ eZ
  show PR M 582 [(0, .ref h)] [.ref q431, .ref h] ω432 (44, 1416)
  refine Y_putF C hI pf_X12_init_214 b433 c434 rfl rfl (Nat.le_of_ble_eq_true rfl) dX12_init_582 (fun ω435 bZ cZ => ?_)
  have b436 := bZ
  clear bZ b433
  have c437 : ω435.2 h = .inr (12, [.int (0 : Int32), .int (0 : Int32), .int (0 : Int32), .ref q10, .ref q17, .ref q24, .ref q31, .ref q38, .ref q45, .ref q52, .ref q59, .int (0 : Int32), .int (-1 : Int32), .int (0 : Int32), .int (0 : Int32), .int (0 : Int32), .ref q81, .ref q88, .ref q95, .ref q102, .ref q109, .ref q116, .ref q123, .ref q130, .int (0 : Int32), .int (0 : Int32), .int (0 : Int32), .ref q146, .int (-1 : Int32), .ref q213, .int (0 : Int32), .ref q223, .ref q230, .int (0 : Int32), .ref q240, .ref q247, .ref q254, .ref q261, .ref q268, .ref q275, .ref q282, .int (0 : Int32), .ref q292, .ref q299, .ref q306, .int (0 : Int32), .int (0 : Int32), .ref q319, .ref q326, .int (0 : Int32), .int (-1 : Int32), .int (0 : Int32), .int (0 : Int32), .int (0 : Int32), .int (0 : Int32), .int (0 : Int32), .ref q354, .ref q361, .ref q368, .ref q375, .ref q382, .ref q389, .ref q396, .ref q403, .ref q410, .ref q417, .ref q424, .ref q431, .null, .int 0, .null, .null, .null, .null, .null]) := cZ
  clear cZ
  refine Z_aload_n C dX12_init_585 0 rfl ?_
  refine Z_bipush C dX12_init_586 (v := (8 : Int32)) (by decide +kernel) ?_
  refine Y_newa (t := 0) (a0 := (8, .inl (fun _ => 0))) C hU b436 (List.mem_of_getElem? (i := 7) rfl) rfl rfl (fun _ _ q => q) (fun _ => rfl) (by decide +kernel) rfl (by decide +kernel) (Nat.le_of_ble_eq_true rfl) (Nat.le_of_ble_eq_true rfl) dX12_init_588 (fun q438 ω439 bZ eZ => ?_)
  have b440 := bZ
  clear bZ b436
  have cZ := eZ.trans c437
  have c441 := cZ
  clear cZ eZ
  show PR M 590 [(0, .ref h)] [.ref q438, .ref h] ω439 (45, 1424)
  refine Y_putF C hI pf_X12_init_217 b440 c441 rfl rfl (Nat.le_of_ble_eq_true rfl) dX12_init_590 (fun ω442 bZ cZ => ?_)
  have b443 := bZ
  clear bZ b440
  have c444 : ω442.2 h = .inr (12, [.int (0 : Int32), .int (0 : Int32), .int (0 : Int32), .ref q10, .ref q17, .ref q24, .ref q31, .ref q38, .ref q45, .ref q52, .ref q59, .int (0 : Int32), .int (-1 : Int32), .int (0 : Int32), .int (0 : Int32), .int (0 : Int32), .ref q81, .ref q88, .ref q95, .ref q102, .ref q109, .ref q116, .ref q123, .ref q130, .int (0 : Int32), .int (0 : Int32), .int (0 : Int32), .ref q146, .int (-1 : Int32), .ref q213, .int (0 : Int32), .ref q223, .ref q230, .int (0 : Int32), .ref q240, .ref q247, .ref q254, .ref q261, .ref q268, .ref q275, .ref q282, .int (0 : Int32), .ref q292, .ref q299, .ref q306, .int (0 : Int32), .int (0 : Int32), .ref q319, .ref q326, .int (0 : Int32), .int (-1 : Int32), .int (0 : Int32), .int (0 : Int32), .int (0 : Int32), .int (0 : Int32), .int (0 : Int32), .ref q354, .ref q361, .ref q368, .ref q375, .ref q382, .ref q389, .ref q396, .ref q403, .ref q410, .ref q417, .ref q424, .ref q431, .ref q438, .int 0, .null, .null, .null, .null, .null]) := cZ
  clear cZ
  refine Z_aload_n C dX12_init_593 0 rfl ?_
  refine Z_iconst C dX12_init_594 (v := (0 : Int32)) (by decide +kernel) ?_
  refine Y_put C pa_X12_init_220 b443 c444 rfl rfl (Nat.le_of_ble_eq_true rfl) dX12_init_595 (fun ω445 bZ cZ => ?_)
  have b446 := bZ
  clear bZ b443
  have c447 : ω445.2 h = .inr (12, [.int (0 : Int32), .int (0 : Int32), .int (0 : Int32), .ref q10, .ref q17, .ref q24, .ref q31, .ref q38, .ref q45, .ref q52, .ref q59, .int (0 : Int32), .int (-1 : Int32), .int (0 : Int32), .int (0 : Int32), .int (0 : Int32), .ref q81, .ref q88, .ref q95, .ref q102, .ref q109, .ref q116, .ref q123, .ref q130, .int (0 : Int32), .int (0 : Int32), .int (0 : Int32), .ref q146, .int (-1 : Int32), .ref q213, .int (0 : Int32), .ref q223, .ref q230, .int (0 : Int32), .ref q240, .ref q247, .ref q254, .ref q261, .ref q268, .ref q275, .ref q282, .int (0 : Int32), .ref q292, .ref q299, .ref q306, .int (0 : Int32), .int (0 : Int32), .ref q319, .ref q326, .int (0 : Int32), .int (-1 : Int32), .int (0 : Int32), .int (0 : Int32), .int (0 : Int32), .int (0 : Int32), .int (0 : Int32), .ref q354, .ref q361, .ref q368, .ref q375, .ref q382, .ref q389, .ref q396, .ref q403, .ref q410, .ref q417, .ref q424, .ref q431, .ref q438, .int (0 : Int32), .null, .null, .null, .null, .null]) := cZ
  clear cZ
  refine Z_aload_n C dX12_init_598 0 rfl ?_
  refine Z_bipush C dX12_init_599 (v := (20 : Int32)) (by decide +kernel) ?_
  refine Y_newa (t := 0) (a0 := (20, .inl (fun _ => 0))) C hU b446 (List.mem_of_getElem? (i := 7) rfl) rfl rfl (fun _ _ q => q) (fun _ => rfl) (by decide +kernel) rfl (by decide +kernel) (Nat.le_of_ble_eq_true rfl) (Nat.le_of_ble_eq_true rfl) dX12_init_601 (fun q448 ω449 bZ eZ => ?_)
  have b450 : BT ω0 ω449 h [(q10, .inl (vC (mV M) 0, (6, .inl (fun _ => 0)))), (q17, .inl (vC (mV M) 0, (6, .inl (fun _ => 0)))), (q24, .inl (vC (mV M) 0, (6, .inl (fun _ => 0)))), (q31, .inl (vC (mV M) 0, (6, .inl (fun _ => 0)))), (q38, .inl (vC (mV M) 0, (6, .inl (fun _ => 0)))), (q45, .inl (vC (mV M) 0, (6, .inl (fun _ => 0)))), (q52, .inl (vC (mV M) 0, (24, .inl (fun _ => 0)))), (q59, .inl (vC (mV M) 0, (6, .inl (fun _ => 0)))), (q81, .inl (vC (mV M) 0, (100, .inl (fun _ => 0)))), (q88, .inl (vC (mV M) 0, (6, .inl (fun _ => 0)))), (q95, .inl (vC (mV M) 0, (60, .inl (fun _ => 0)))), (q102, .inl (vC (mV M) 0, (60, .inl (fun _ => 0)))), (q109, .inl (vC (mV M) 0, (60, .inl (fun _ => 0)))), (q116, .inl (vC (mV M) 0, (60, .inl (fun _ => 0)))), (q123, .inl (vC (mV M) 0, (600, .inl (fun _ => 0)))), (q130, .inl (vC (mV M) 0, (101, .inl (fun _ => 0)))), (q146, .inl (vC (mV M) 0, (19, .inl (upd (upd (upd (upd (upd (upd (upd (upd (upd (upd (upd (upd (upd (upd (upd (upd (upd (upd (upd (fun _ => 0) 0 (102 : Int32)) 1 (97 : Int32)) 2 (115 : Int32)) 3 (116 : Int32)) 4 (115 : Int32)) 5 (108 : Int32)) 6 (111 : Int32)) 7 (119 : Int32)) 8 (103 : Int32)) 9 (97 : Int32)) 10 (112 : Int32)) 11 (116 : Int32)) 12 (105 : Int32)) 13 (114 : Int32)) 14 (101 : Int32)) 15 (108 : Int32)) 16 (111 : Int32)) 17 (110 : Int32)) 18 (103 : Int32))))), (q213, .inl (vC (mV M) 2, (100, .inl (fun _ => 0)))), (q223, .inl (vC (mV M) 0, (6, .inl (fun _ => 0)))), (q230, .inl (vC (mV M) 0, (6, .inl (fun _ => 0)))), (q240, .inl (vC (mV M) 0, (6, .inl (fun _ => 0)))), (q247, .inl (vC (mV M) 0, (6, .inl (fun _ => 0)))), (q254, .inl (vC (mV M) 0, (6, .inl (fun _ => 0)))), (q261, .inl (vC (mV M) 0, (6, .inl (fun _ => 0)))), (q268, .inl (vC (mV M) 0, (6, .inl (fun _ => 0)))), (q275, .inl (vC (mV M) 0, (6, .inl (fun _ => 0)))), (q282, .inl (vC (mV M) 0, (6, .inl (fun _ => 0)))), (q292, .inl (vC (mV M) 0, (6, .inl (fun _ => 0)))), (q299, .inl (vC (mV M) 0, (6, .inl (fun _ => 0)))), (q306, .inl (vC (mV M) 0, (6, .inl (fun _ => 0)))), (q319, .inl (vC (mV M) 0, (10, .inl (fun _ => 0)))), (q326, .inl (vC (mV M) 0, (8, .inl (fun _ => 0)))), (q354, .inl (vC (mV M) 0, (6, .inl (fun _ => 0)))), (q361, .inl (vC (mV M) 0, (6, .inl (fun _ => 0)))), (q368, .inl (vC (mV M) 0, (6, .inl (fun _ => 0)))), (q375, .inl (vC (mV M) 0, (6, .inl (fun _ => 0)))), (q382, .inl (vC (mV M) 0, (6, .inl (fun _ => 0)))), (q389, .inl (vC (mV M) 0, (6, .inl (fun _ => 0)))), (q396, .inl (vC (mV M) 0, (6, .inl (fun _ => 0)))), (q403, .inl (vC (mV M) 0, (24, .inl (fun _ => 0)))), (q410, .inl (vC (mV M) 0, (6, .inl (fun _ => 0)))), (q417, .inl (vC (mV M) 0, (6, .inl (fun _ => 0)))), (q424, .inl (vC (mV M) 0, (6, .inl (fun _ => 0)))), (q431, .inl (vC (mV M) 0, (10, .inl (fun _ => 0)))), (q438, .inl (vC (mV M) 0, (8, .inl (fun _ => 0)))), (q448, .inl (vC (mV M) 0, (20, .inl (fun _ => 0))))] := bZ
  clear bZ b446
  have cZ := eZ.trans c447
  have c451 := cZ
  clear cZ eZ
  show PR M 603 [(0, .ref h)] [.ref q448, .ref h] ω449 (46, 1444)
  refine Y_putF C hI pf_X12_init_223 b450 c451 rfl rfl (Nat.le_of_ble_eq_true rfl) dX12_init_603 (fun ω452 bZ cZ => ?_)
  have b453 := bZ
  clear bZ b450
  have c454 : ω452.2 h = .inr (12, [.int (0 : Int32), .int (0 : Int32), .int (0 : Int32), .ref q10, .ref q17, .ref q24, .ref q31, .ref q38, .ref q45, .ref q52, .ref q59, .int (0 : Int32), .int (-1 : Int32), .int (0 : Int32), .int (0 : Int32), .int (0 : Int32), .ref q81, .ref q88, .ref q95, .ref q102, .ref q109, .ref q116, .ref q123, .ref q130, .int (0 : Int32), .int (0 : Int32), .int (0 : Int32), .ref q146, .int (-1 : Int32), .ref q213, .int (0 : Int32), .ref q223, .ref q230, .int (0 : Int32), .ref q240, .ref q247, .ref q254, .ref q261, .ref q268, .ref q275, .ref q282, .int (0 : Int32), .ref q292, .ref q299, .ref q306, .int (0 : Int32), .int (0 : Int32), .ref q319, .ref q326, .int (0 : Int32), .int (-1 : Int32), .int (0 : Int32), .int (0 : Int32), .int (0 : Int32), .int (0 : Int32), .int (0 : Int32), .ref q354, .ref q361, .ref q368, .ref q375, .ref q382, .ref q389, .ref q396, .ref q403, .ref q410, .ref q417, .ref q424, .ref q431, .ref q438, .int (0 : Int32), .ref q448, .null, .null, .null, .null]) := cZ
  clear cZ
  refine Z_aload_n C dX12_init_606 0 rfl ?_
  refine Z_bipush C dX12_init_607 (v := (6 : Int32)) (by decide +kernel) ?_
  refine Y_newa (t := 0) (a0 := (6, .inl (fun _ => 0))) C hU b453 (List.mem_of_getElem? (i := 7) rfl) rfl rfl (fun _ _ q => q) (fun _ => rfl) (by decide +kernel) rfl (by decide +kernel) (Nat.le_of_ble_eq_true rfl) (Nat.le_of_ble_eq_true rfl) dX12_init_609 (fun q455 ω456 bZ eZ => ?_)
  have b457 := bZ
  clear bZ b453
  have cZ := eZ.trans c454
  have c458 := cZ
  clear cZ eZ
  show PR M 611 [(0, .ref h)] [.ref q455, .ref h] ω456 (47, 1450)
  refine Z_dup C dX12_init_611 rfl ?_
  refine Z_iconst C dX12_init_612 (v := (0 : Int32)) (by decide +kernel) ?_
  refine Z_iconst C dX12_init_613 (v := (-1 : Int32)) (by decide +kernel) ?_
  refine Y_iast (k := 46) C b457 rfl (vp_in_iff.mpr ⟨by decide +kernel, by decide +kernel⟩) dX12_init_614 (fun ω459 bZ eZ => ?_)
  have b460 : BT ω0 ω459 h [(q10, .inl (vC (mV M) 0, (6, .inl (fun _ => 0)))), (q17, .inl (vC (mV M) 0, (6, .inl (fun _ => 0)))), (q24, .inl (vC (mV M) 0, (6, .inl (fun _ => 0)))), (q31, .inl (vC (mV M) 0, (6, .inl (fun _ => 0)))), (q38, .inl (vC (mV M) 0, (6, .inl (fun _ => 0)))), (q45, .inl (vC (mV M) 0, (6, .inl (fun _ => 0)))), (q52, .inl (vC (mV M) 0, (24, .inl (fun _ => 0)))), (q59, .inl (vC (mV M) 0, (6, .inl (fun _ => 0)))), (q81, .inl (vC (mV M) 0, (100, .inl (fun _ => 0)))), (q88, .inl (vC (mV M) 0, (6, .inl (fun _ => 0)))), (q95, .inl (vC (mV M) 0, (60, .inl (fun _ => 0)))), (q102, .inl (vC (mV M) 0, (60, .inl (fun _ => 0)))), (q109, .inl (vC (mV M) 0, (60, .inl (fun _ => 0)))), (q116, .inl (vC (mV M) 0, (60, .inl (fun _ => 0)))), (q123, .inl (vC (mV M) 0, (600, .inl (fun _ => 0)))), (q130, .inl (vC (mV M) 0, (101, .inl (fun _ => 0)))), (q146, .inl (vC (mV M) 0, (19, .inl (upd (upd (upd (upd (upd (upd (upd (upd (upd (upd (upd (upd (upd (upd (upd (upd (upd (upd (upd (fun _ => 0) 0 (102 : Int32)) 1 (97 : Int32)) 2 (115 : Int32)) 3 (116 : Int32)) 4 (115 : Int32)) 5 (108 : Int32)) 6 (111 : Int32)) 7 (119 : Int32)) 8 (103 : Int32)) 9 (97 : Int32)) 10 (112 : Int32)) 11 (116 : Int32)) 12 (105 : Int32)) 13 (114 : Int32)) 14 (101 : Int32)) 15 (108 : Int32)) 16 (111 : Int32)) 17 (110 : Int32)) 18 (103 : Int32))))), (q213, .inl (vC (mV M) 2, (100, .inl (fun _ => 0)))), (q223, .inl (vC (mV M) 0, (6, .inl (fun _ => 0)))), (q230, .inl (vC (mV M) 0, (6, .inl (fun _ => 0)))), (q240, .inl (vC (mV M) 0, (6, .inl (fun _ => 0)))), (q247, .inl (vC (mV M) 0, (6, .inl (fun _ => 0)))), (q254, .inl (vC (mV M) 0, (6, .inl (fun _ => 0)))), (q261, .inl (vC (mV M) 0, (6, .inl (fun _ => 0)))), (q268, .inl (vC (mV M) 0, (6, .inl (fun _ => 0)))), (q275, .inl (vC (mV M) 0, (6, .inl (fun _ => 0)))), (q282, .inl (vC (mV M) 0, (6, .inl (fun _ => 0)))), (q292, .inl (vC (mV M) 0, (6, .inl (fun _ => 0)))), (q299, .inl (vC (mV M) 0, (6, .inl (fun _ => 0)))), (q306, .inl (vC (mV M) 0, (6, .inl (fun _ => 0)))), (q319, .inl (vC (mV M) 0, (10, .inl (fun _ => 0)))), (q326, .inl (vC (mV M) 0, (8, .inl (fun _ => 0)))), (q354, .inl (vC (mV M) 0, (6, .inl (fun _ => 0)))), (q361, .inl (vC (mV M) 0, (6, .inl (fun _ => 0)))), (q368, .inl (vC (mV M) 0, (6, .inl (fun _ => 0)))), (q375, .inl (vC (mV M) 0, (6, .inl (fun _ => 0)))), (q382, .inl (vC (mV M) 0, (6, .inl (fun _ => 0)))), (q389, .inl (vC (mV M) 0, (6, .inl (fun _ => 0)))), (q396, .inl (vC (mV M) 0, (6, .inl (fun _ => 0)))), (q403, .inl (vC (mV M) 0, (24, .inl (fun _ => 0)))), (q410, .inl (vC (mV M) 0, (6, .inl (fun _ => 0)))), (q417, .inl (vC (mV M) 0, (6, .inl (fun _ => 0)))), (q424, .inl (vC (mV M) 0, (6, .inl (fun _ => 0)))), (q431, .inl (vC (mV M) 0, (10, .inl (fun _ => 0)))), (q438, .inl (vC (mV M) 0, (8, .inl (fun _ => 0)))), (q448, .inl (vC (mV M) 0, (20, .inl (fun _ => 0)))), (q455, .inl (vC (mV M) 0, (6, .inl (upd (fun _ => 0) 0 (-1 : Int32)))))] := bZ
  clear bZ b457
  have c461 := eZ.trans c458
  clear eZ
  refine Z_dup C dX12_init_615 rfl ?_
  refine Z_iconst C dX12_init_616 (v := (1 : Int32)) (by decide +kernel) ?_
  refine Z_iconst C dX12_init_617 (v := (-1 : Int32)) (by decide +kernel) ?_
  refine Y_iast (k := 46) C b460 rfl (vp_in_iff.mpr ⟨by decide +kernel, by decide +kernel⟩) dX12_init_618 (fun ω462 bZ eZ => ?_)
  have b463 : BT ω0 ω462 h [(q10, .inl (vC (mV M) 0, (6, .inl (fun _ => 0)))), (q17, .inl (vC (mV M) 0, (6, .inl (fun _ => 0)))), (q24, .inl (vC (mV M) 0, (6, .inl (fun _ => 0)))), (q31, .inl (vC (mV M) 0, (6, .inl (fun _ => 0)))), (q38, .inl (vC (mV M) 0, (6, .inl (fun _ => 0)))), (q45, .inl (vC (mV M) 0, (6, .inl (fun _ => 0)))), (q52, .inl (vC (mV M) 0, (24, .inl (fun _ => 0)))), (q59, .inl (vC (mV M) 0, (6, .inl (fun _ => 0)))), (q81, .inl (vC (mV M) 0, (100, .inl (fun _ => 0)))), (q88, .inl (vC (mV M) 0, (6, .inl (fun _ => 0)))), (q95, .inl (vC (mV M) 0, (60, .inl (fun _ => 0)))), (q102, .inl (vC (mV M) 0, (60, .inl (fun _ => 0)))), (q109, .inl (vC (mV M) 0, (60, .inl (fun _ => 0)))), (q116, .inl (vC (mV M) 0, (60, .inl (fun _ => 0)))), (q123, .inl (vC (mV M) 0, (600, .inl (fun _ => 0)))), (q130, .inl (vC (mV M) 0, (101, .inl (fun _ => 0)))), (q146, .inl (vC (mV M) 0, (19, .inl (upd (upd (upd (upd (upd (upd (upd (upd (upd (upd (upd (upd (upd (upd (upd (upd (upd (upd (upd (fun _ => 0) 0 (102 : Int32)) 1 (97 : Int32)) 2 (115 : Int32)) 3 (116 : Int32)) 4 (115 : Int32)) 5 (108 : Int32)) 6 (111 : Int32)) 7 (119 : Int32)) 8 (103 : Int32)) 9 (97 : Int32)) 10 (112 : Int32)) 11 (116 : Int32)) 12 (105 : Int32)) 13 (114 : Int32)) 14 (101 : Int32)) 15 (108 : Int32)) 16 (111 : Int32)) 17 (110 : Int32)) 18 (103 : Int32))))), (q213, .inl (vC (mV M) 2, (100, .inl (fun _ => 0)))), (q223, .inl (vC (mV M) 0, (6, .inl (fun _ => 0)))), (q230, .inl (vC (mV M) 0, (6, .inl (fun _ => 0)))), (q240, .inl (vC (mV M) 0, (6, .inl (fun _ => 0)))), (q247, .inl (vC (mV M) 0, (6, .inl (fun _ => 0)))), (q254, .inl (vC (mV M) 0, (6, .inl (fun _ => 0)))), (q261, .inl (vC (mV M) 0, (6, .inl (fun _ => 0)))), (q268, .inl (vC (mV M) 0, (6, .inl (fun _ => 0)))), (q275, .inl (vC (mV M) 0, (6, .inl (fun _ => 0)))), (q282, .inl (vC (mV M) 0, (6, .inl (fun _ => 0)))), (q292, .inl (vC (mV M) 0, (6, .inl (fun _ => 0)))), (q299, .inl (vC (mV M) 0, (6, .inl (fun _ => 0)))), (q306, .inl (vC (mV M) 0, (6, .inl (fun _ => 0)))), (q319, .inl (vC (mV M) 0, (10, .inl (fun _ => 0)))), (q326, .inl (vC (mV M) 0, (8, .inl (fun _ => 0)))), (q354, .inl (vC (mV M) 0, (6, .inl (fun _ => 0)))), (q361, .inl (vC (mV M) 0, (6, .inl (fun _ => 0)))), (q368, .inl (vC (mV M) 0, (6, .inl (fun _ => 0)))), (q375, .inl (vC (mV M) 0, (6, .inl (fun _ => 0)))), (q382, .inl (vC (mV M) 0, (6, .inl (fun _ => 0)))), (q389, .inl (vC (mV M) 0, (6, .inl (fun _ => 0)))), (q396, .inl (vC (mV M) 0, (6, .inl (fun _ => 0)))), (q403, .inl (vC (mV M) 0, (24, .inl (fun _ => 0)))), (q410, .inl (vC (mV M) 0, (6, .inl (fun _ => 0)))), (q417, .inl (vC (mV M) 0, (6, .inl (fun _ => 0)))), (q424, .inl (vC (mV M) 0, (6, .inl (fun _ => 0)))), (q431, .inl (vC (mV M) 0, (10, .inl (fun _ => 0)))), (q438, .inl (vC (mV M) 0, (8, .inl (fun _ => 0)))), (q448, .inl (vC (mV M) 0, (20, .inl (fun _ => 0)))), (q455, .inl (vC (mV M) 0, (6, .inl (upd (upd (fun _ => 0) 0 (-1 : Int32)) 1 (-1 : Int32)))))] := bZ
  clear bZ b460
  have c464 := eZ.trans c461
  clear eZ
  refine Z_dup C dX12_init_619 rfl ?_
  refine Z_iconst C dX12_init_620 (v := (2 : Int32)) (by decide +kernel) ?_
  refine Z_iconst C dX12_init_621 (v := (-1 : Int32)) (by decide +kernel) ?_
  refine Y_iast (k := 46) C b463 rfl (vp_in_iff.mpr ⟨by decide +kernel, by decide +kernel⟩) dX12_init_622 (fun ω465 bZ eZ => ?_)
  have b466 : BT ω0 ω465 h [(q10, .inl (vC (mV M) 0, (6, .inl (fun _ => 0)))), (q17, .inl (vC (mV M) 0, (6, .inl (fun _ => 0)))), (q24, .inl (vC (mV M) 0, (6, .inl (fun _ => 0)))), (q31, .inl (vC (mV M) 0, (6, .inl (fun _ => 0)))), (q38, .inl (vC (mV M) 0, (6, .inl (fun _ => 0)))), (q45, .inl (vC (mV M) 0, (6, .inl (fun _ => 0)))), (q52, .inl (vC (mV M) 0, (24, .inl (fun _ => 0)))), (q59, .inl (vC (mV M) 0, (6, .inl (fun _ => 0)))), (q81, .inl (vC (mV M) 0, (100, .inl (fun _ => 0)))), (q88, .inl (vC (mV M) 0, (6, .inl (fun _ => 0)))), (q95, .inl (vC (mV M) 0, (60, .inl (fun _ => 0)))), (q102, .inl (vC (mV M) 0, (60, .inl (fun _ => 0)))), (q109, .inl (vC (mV M) 0, (60, .inl (fun _ => 0)))), (q116, .inl (vC (mV M) 0, (60, .inl (fun _ => 0)))), (q123, .inl (vC (mV M) 0, (600, .inl (fun _ => 0)))), (q130, .inl (vC (mV M) 0, (101, .inl (fun _ => 0)))), (q146, .inl (vC (mV M) 0, (19, .inl (upd (upd (upd (upd (upd (upd (upd (upd (upd (upd (upd (upd (upd (upd (upd (upd (upd (upd (upd (fun _ => 0) 0 (102 : Int32)) 1 (97 : Int32)) 2 (115 : Int32)) 3 (116 : Int32)) 4 (115 : Int32)) 5 (108 : Int32)) 6 (111 : Int32)) 7 (119 : Int32)) 8 (103 : Int32)) 9 (97 : Int32)) 10 (112 : Int32)) 11 (116 : Int32)) 12 (105 : Int32)) 13 (114 : Int32)) 14 (101 : Int32)) 15 (108 : Int32)) 16 (111 : Int32)) 17 (110 : Int32)) 18 (103 : Int32))))), (q213, .inl (vC (mV M) 2, (100, .inl (fun _ => 0)))), (q223, .inl (vC (mV M) 0, (6, .inl (fun _ => 0)))), (q230, .inl (vC (mV M) 0, (6, .inl (fun _ => 0)))), (q240, .inl (vC (mV M) 0, (6, .inl (fun _ => 0)))), (q247, .inl (vC (mV M) 0, (6, .inl (fun _ => 0)))), (q254, .inl (vC (mV M) 0, (6, .inl (fun _ => 0)))), (q261, .inl (vC (mV M) 0, (6, .inl (fun _ => 0)))), (q268, .inl (vC (mV M) 0, (6, .inl (fun _ => 0)))), (q275, .inl (vC (mV M) 0, (6, .inl (fun _ => 0)))), (q282, .inl (vC (mV M) 0, (6, .inl (fun _ => 0)))), (q292, .inl (vC (mV M) 0, (6, .inl (fun _ => 0)))), (q299, .inl (vC (mV M) 0, (6, .inl (fun _ => 0)))), (q306, .inl (vC (mV M) 0, (6, .inl (fun _ => 0)))), (q319, .inl (vC (mV M) 0, (10, .inl (fun _ => 0)))), (q326, .inl (vC (mV M) 0, (8, .inl (fun _ => 0)))), (q354, .inl (vC (mV M) 0, (6, .inl (fun _ => 0)))), (q361, .inl (vC (mV M) 0, (6, .inl (fun _ => 0)))), (q368, .inl (vC (mV M) 0, (6, .inl (fun _ => 0)))), (q375, .inl (vC (mV M) 0, (6, .inl (fun _ => 0)))), (q382, .inl (vC (mV M) 0, (6, .inl (fun _ => 0)))), (q389, .inl (vC (mV M) 0, (6, .inl (fun _ => 0)))), (q396, .inl (vC (mV M) 0, (6, .inl (fun _ => 0)))), (q403, .inl (vC (mV M) 0, (24, .inl (fun _ => 0)))), (q410, .inl (vC (mV M) 0, (6, .inl (fun _ => 0)))), (q417, .inl (vC (mV M) 0, (6, .inl (fun _ => 0)))), (q424, .inl (vC (mV M) 0, (6, .inl (fun _ => 0)))), (q431, .inl (vC (mV M) 0, (10, .inl (fun _ => 0)))), (q438, .inl (vC (mV M) 0, (8, .inl (fun _ => 0)))), (q448, .inl (vC (mV M) 0, (20, .inl (fun _ => 0)))), (q455, .inl (vC (mV M) 0, (6, .inl (upd (upd (upd (fun _ => 0) 0 (-1 : Int32)) 1 (-1 : Int32)) 2 (-1 : Int32)))))] := bZ
  clear bZ b463
  have c467 := eZ.trans c464
  clear eZ
  refine Z_dup C dX12_init_623 rfl ?_
  refine Z_iconst C dX12_init_624 (v := (3 : Int32)) (by decide +kernel) ?_
  refine Z_iconst C dX12_init_625 (v := (-1 : Int32)) (by decide +kernel) ?_
  refine Y_iast (k := 46) C b466 rfl (vp_in_iff.mpr ⟨by decide +kernel, by decide +kernel⟩) dX12_init_626 (fun ω468 bZ eZ => ?_)
  have b469 : BT ω0 ω468 h [(q10, .inl (vC (mV M) 0, (6, .inl (fun _ => 0)))), (q17, .inl (vC (mV M) 0, (6, .inl (fun _ => 0)))), (q24, .inl (vC (mV M) 0, (6, .inl (fun _ => 0)))), (q31, .inl (vC (mV M) 0, (6, .inl (fun _ => 0)))), (q38, .inl (vC (mV M) 0, (6, .inl (fun _ => 0)))), (q45, .inl (vC (mV M) 0, (6, .inl (fun _ => 0)))), (q52, .inl (vC (mV M) 0, (24, .inl (fun _ => 0)))), (q59, .inl (vC (mV M) 0, (6, .inl (fun _ => 0)))), (q81, .inl (vC (mV M) 0, (100, .inl (fun _ => 0)))), (q88, .inl (vC (mV M) 0, (6, .inl (fun _ => 0)))), (q95, .inl (vC (mV M) 0, (60, .inl (fun _ => 0)))), (q102, .inl (vC (mV M) 0, (60, .inl (fun _ => 0)))), (q109, .inl (vC (mV M) 0, (60, .inl (fun _ => 0)))), (q116, .inl (vC (mV M) 0, (60, .inl (fun _ => 0)))), (q123, .inl (vC (mV M) 0, (600, .inl (fun _ => 0)))), (q130, .inl (vC (mV M) 0, (101, .inl (fun _ => 0)))), (q146, .inl (vC (mV M) 0, (19, .inl (upd (upd (upd (upd (upd (upd (upd (upd (upd (upd (upd (upd (upd (upd (upd (upd (upd (upd (upd (fun _ => 0) 0 (102 : Int32)) 1 (97 : Int32)) 2 (115 : Int32)) 3 (116 : Int32)) 4 (115 : Int32)) 5 (108 : Int32)) 6 (111 : Int32)) 7 (119 : Int32)) 8 (103 : Int32)) 9 (97 : Int32)) 10 (112 : Int32)) 11 (116 : Int32)) 12 (105 : Int32)) 13 (114 : Int32)) 14 (101 : Int32)) 15 (108 : Int32)) 16 (111 : Int32)) 17 (110 : Int32)) 18 (103 : Int32))))), (q213, .inl (vC (mV M) 2, (100, .inl (fun _ => 0)))), (q223, .inl (vC (mV M) 0, (6, .inl (fun _ => 0)))), (q230, .inl (vC (mV M) 0, (6, .inl (fun _ => 0)))), (q240, .inl (vC (mV M) 0, (6, .inl (fun _ => 0)))), (q247, .inl (vC (mV M) 0, (6, .inl (fun _ => 0)))), (q254, .inl (vC (mV M) 0, (6, .inl (fun _ => 0)))), (q261, .inl (vC (mV M) 0, (6, .inl (fun _ => 0)))), (q268, .inl (vC (mV M) 0, (6, .inl (fun _ => 0)))), (q275, .inl (vC (mV M) 0, (6, .inl (fun _ => 0)))), (q282, .inl (vC (mV M) 0, (6, .inl (fun _ => 0)))), (q292, .inl (vC (mV M) 0, (6, .inl (fun _ => 0)))), (q299, .inl (vC (mV M) 0, (6, .inl (fun _ => 0)))), (q306, .inl (vC (mV M) 0, (6, .inl (fun _ => 0)))), (q319, .inl (vC (mV M) 0, (10, .inl (fun _ => 0)))), (q326, .inl (vC (mV M) 0, (8, .inl (fun _ => 0)))), (q354, .inl (vC (mV M) 0, (6, .inl (fun _ => 0)))), (q361, .inl (vC (mV M) 0, (6, .inl (fun _ => 0)))), (q368, .inl (vC (mV M) 0, (6, .inl (fun _ => 0)))), (q375, .inl (vC (mV M) 0, (6, .inl (fun _ => 0)))), (q382, .inl (vC (mV M) 0, (6, .inl (fun _ => 0)))), (q389, .inl (vC (mV M) 0, (6, .inl (fun _ => 0)))), (q396, .inl (vC (mV M) 0, (6, .inl (fun _ => 0)))), (q403, .inl (vC (mV M) 0, (24, .inl (fun _ => 0)))), (q410, .inl (vC (mV M) 0, (6, .inl (fun _ => 0)))), (q417, .inl (vC (mV M) 0, (6, .inl (fun _ => 0)))), (q424, .inl (vC (mV M) 0, (6, .inl (fun _ => 0)))), (q431, .inl (vC (mV M) 0, (10, .inl (fun _ => 0)))), (q438, .inl (vC (mV M) 0, (8, .inl (fun _ => 0)))), (q448, .inl (vC (mV M) 0, (20, .inl (fun _ => 0)))), (q455, .inl (vC (mV M) 0, (6, .inl (upd (upd (upd (upd (fun _ => 0) 0 (-1 : Int32)) 1 (-1 : Int32)) 2 (-1 : Int32)) 3 (-1 : Int32)))))] := bZ
  clear bZ b466
  have c470 := eZ.trans c467
  clear eZ
  refine Z_dup C dX12_init_627 rfl ?_
  refine Z_iconst C dX12_init_628 (v := (4 : Int32)) (by decide +kernel) ?_
  refine Z_iconst C dX12_init_629 (v := (-1 : Int32)) (by decide +kernel) ?_
  refine Y_iast (k := 46) C b469 rfl (vp_in_iff.mpr ⟨by decide +kernel, by decide +kernel⟩) dX12_init_630 (fun ω471 bZ eZ => ?_)
  have b472 : BT ω0 ω471 h [(q10, .inl (vC (mV M) 0, (6, .inl (fun _ => 0)))), (q17, .inl (vC (mV M) 0, (6, .inl (fun _ => 0)))), (q24, .inl (vC (mV M) 0, (6, .inl (fun _ => 0)))), (q31, .inl (vC (mV M) 0, (6, .inl (fun _ => 0)))), (q38, .inl (vC (mV M) 0, (6, .inl (fun _ => 0)))), (q45, .inl (vC (mV M) 0, (6, .inl (fun _ => 0)))), (q52, .inl (vC (mV M) 0, (24, .inl (fun _ => 0)))), (q59, .inl (vC (mV M) 0, (6, .inl (fun _ => 0)))), (q81, .inl (vC (mV M) 0, (100, .inl (fun _ => 0)))), (q88, .inl (vC (mV M) 0, (6, .inl (fun _ => 0)))), (q95, .inl (vC (mV M) 0, (60, .inl (fun _ => 0)))), (q102, .inl (vC (mV M) 0, (60, .inl (fun _ => 0)))), (q109, .inl (vC (mV M) 0, (60, .inl (fun _ => 0)))), (q116, .inl (vC (mV M) 0, (60, .inl (fun _ => 0)))), (q123, .inl (vC (mV M) 0, (600, .inl (fun _ => 0)))), (q130, .inl (vC (mV M) 0, (101, .inl (fun _ => 0)))), (q146, .inl (vC (mV M) 0, (19, .inl (upd (upd (upd (upd (upd (upd (upd (upd (upd (upd (upd (upd (upd (upd (upd (upd (upd (upd (upd (fun _ => 0) 0 (102 : Int32)) 1 (97 : Int32)) 2 (115 : Int32)) 3 (116 : Int32)) 4 (115 : Int32)) 5 (108 : Int32)) 6 (111 : Int32)) 7 (119 : Int32)) 8 (103 : Int32)) 9 (97 : Int32)) 10 (112 : Int32)) 11 (116 : Int32)) 12 (105 : Int32)) 13 (114 : Int32)) 14 (101 : Int32)) 15 (108 : Int32)) 16 (111 : Int32)) 17 (110 : Int32)) 18 (103 : Int32))))), (q213, .inl (vC (mV M) 2, (100, .inl (fun _ => 0)))), (q223, .inl (vC (mV M) 0, (6, .inl (fun _ => 0)))), (q230, .inl (vC (mV M) 0, (6, .inl (fun _ => 0)))), (q240, .inl (vC (mV M) 0, (6, .inl (fun _ => 0)))), (q247, .inl (vC (mV M) 0, (6, .inl (fun _ => 0)))), (q254, .inl (vC (mV M) 0, (6, .inl (fun _ => 0)))), (q261, .inl (vC (mV M) 0, (6, .inl (fun _ => 0)))), (q268, .inl (vC (mV M) 0, (6, .inl (fun _ => 0)))), (q275, .inl (vC (mV M) 0, (6, .inl (fun _ => 0)))), (q282, .inl (vC (mV M) 0, (6, .inl (fun _ => 0)))), (q292, .inl (vC (mV M) 0, (6, .inl (fun _ => 0)))), (q299, .inl (vC (mV M) 0, (6, .inl (fun _ => 0)))), (q306, .inl (vC (mV M) 0, (6, .inl (fun _ => 0)))), (q319, .inl (vC (mV M) 0, (10, .inl (fun _ => 0)))), (q326, .inl (vC (mV M) 0, (8, .inl (fun _ => 0)))), (q354, .inl (vC (mV M) 0, (6, .inl (fun _ => 0)))), (q361, .inl (vC (mV M) 0, (6, .inl (fun _ => 0)))), (q368, .inl (vC (mV M) 0, (6, .inl (fun _ => 0)))), (q375, .inl (vC (mV M) 0, (6, .inl (fun _ => 0)))), (q382, .inl (vC (mV M) 0, (6, .inl (fun _ => 0)))), (q389, .inl (vC (mV M) 0, (6, .inl (fun _ => 0)))), (q396, .inl (vC (mV M) 0, (6, .inl (fun _ => 0)))), (q403, .inl (vC (mV M) 0, (24, .inl (fun _ => 0)))), (q410, .inl (vC (mV M) 0, (6, .inl (fun _ => 0)))), (q417, .inl (vC (mV M) 0, (6, .inl (fun _ => 0)))), (q424, .inl (vC (mV M) 0, (6, .inl (fun _ => 0)))), (q431, .inl (vC (mV M) 0, (10, .inl (fun _ => 0)))), (q438, .inl (vC (mV M) 0, (8, .inl (fun _ => 0)))), (q448, .inl (vC (mV M) 0, (20, .inl (fun _ => 0)))), (q455, .inl (vC (mV M) 0, (6, .inl (upd (upd (upd (upd (upd (fun _ => 0) 0 (-1 : Int32)) 1 (-1 : Int32)) 2 (-1 : Int32)) 3 (-1 : Int32)) 4 (-1 : Int32)))))] := bZ
  clear bZ b469
  have c473 := eZ.trans c470
  clear eZ
  refine Z_dup C dX12_init_631 rfl ?_
  refine Z_iconst C dX12_init_632 (v := (5 : Int32)) (by decide +kernel) ?_
  refine Z_iconst C dX12_init_633 (v := (-1 : Int32)) (by decide +kernel) ?_
  refine Y_iast (k := 46) C b472 rfl (vp_in_iff.mpr ⟨by decide +kernel, by decide +kernel⟩) dX12_init_634 (fun ω474 bZ eZ => ?_)
  have b475 : BT ω0 ω474 h [(q10, .inl (vC (mV M) 0, (6, .inl (fun _ => 0)))), (q17, .inl (vC (mV M) 0, (6, .inl (fun _ => 0)))), (q24, .inl (vC (mV M) 0, (6, .inl (fun _ => 0)))), (q31, .inl (vC (mV M) 0, (6, .inl (fun _ => 0)))), (q38, .inl (vC (mV M) 0, (6, .inl (fun _ => 0)))), (q45, .inl (vC (mV M) 0, (6, .inl (fun _ => 0)))), (q52, .inl (vC (mV M) 0, (24, .inl (fun _ => 0)))), (q59, .inl (vC (mV M) 0, (6, .inl (fun _ => 0)))), (q81, .inl (vC (mV M) 0, (100, .inl (fun _ => 0)))), (q88, .inl (vC (mV M) 0, (6, .inl (fun _ => 0)))), (q95, .inl (vC (mV M) 0, (60, .inl (fun _ => 0)))), (q102, .inl (vC (mV M) 0, (60, .inl (fun _ => 0)))), (q109, .inl (vC (mV M) 0, (60, .inl (fun _ => 0)))), (q116, .inl (vC (mV M) 0, (60, .inl (fun _ => 0)))), (q123, .inl (vC (mV M) 0, (600, .inl (fun _ => 0)))), (q130, .inl (vC (mV M) 0, (101, .inl (fun _ => 0)))), (q146, .inl (vC (mV M) 0, (19, .inl (upd (upd (upd (upd (upd (upd (upd (upd (upd (upd (upd (upd (upd (upd (upd (upd (upd (upd (upd (fun _ => 0) 0 (102 : Int32)) 1 (97 : Int32)) 2 (115 : Int32)) 3 (116 : Int32)) 4 (115 : Int32)) 5 (108 : Int32)) 6 (111 : Int32)) 7 (119 : Int32)) 8 (103 : Int32)) 9 (97 : Int32)) 10 (112 : Int32)) 11 (116 : Int32)) 12 (105 : Int32)) 13 (114 : Int32)) 14 (101 : Int32)) 15 (108 : Int32)) 16 (111 : Int32)) 17 (110 : Int32)) 18 (103 : Int32))))), (q213, .inl (vC (mV M) 2, (100, .inl (fun _ => 0)))), (q223, .inl (vC (mV M) 0, (6, .inl (fun _ => 0)))), (q230, .inl (vC (mV M) 0, (6, .inl (fun _ => 0)))), (q240, .inl (vC (mV M) 0, (6, .inl (fun _ => 0)))), (q247, .inl (vC (mV M) 0, (6, .inl (fun _ => 0)))), (q254, .inl (vC (mV M) 0, (6, .inl (fun _ => 0)))), (q261, .inl (vC (mV M) 0, (6, .inl (fun _ => 0)))), (q268, .inl (vC (mV M) 0, (6, .inl (fun _ => 0)))), (q275, .inl (vC (mV M) 0, (6, .inl (fun _ => 0)))), (q282, .inl (vC (mV M) 0, (6, .inl (fun _ => 0)))), (q292, .inl (vC (mV M) 0, (6, .inl (fun _ => 0)))), (q299, .inl (vC (mV M) 0, (6, .inl (fun _ => 0)))), (q306, .inl (vC (mV M) 0, (6, .inl (fun _ => 0)))), (q319, .inl (vC (mV M) 0, (10, .inl (fun _ => 0)))), (q326, .inl (vC (mV M) 0, (8, .inl (fun _ => 0)))), (q354, .inl (vC (mV M) 0, (6, .inl (fun _ => 0)))), (q361, .inl (vC (mV M) 0, (6, .inl (fun _ => 0)))), (q368, .inl (vC (mV M) 0, (6, .inl (fun _ => 0)))), (q375, .inl (vC (mV M) 0, (6, .inl (fun _ => 0)))), (q382, .inl (vC (mV M) 0, (6, .inl (fun _ => 0)))), (q389, .inl (vC (mV M) 0, (6, .inl (fun _ => 0)))), (q396, .inl (vC (mV M) 0, (6, .inl (fun _ => 0)))), (q403, .inl (vC (mV M) 0, (24, .inl (fun _ => 0)))), (q410, .inl (vC (mV M) 0, (6, .inl (fun _ => 0)))), (q417, .inl (vC (mV M) 0, (6, .inl (fun _ => 0)))), (q424, .inl (vC (mV M) 0, (6, .inl (fun _ => 0)))), (q431, .inl (vC (mV M) 0, (10, .inl (fun _ => 0)))), (q438, .inl (vC (mV M) 0, (8, .inl (fun _ => 0)))), (q448, .inl (vC (mV M) 0, (20, .inl (fun _ => 0)))), (q455, .inl (vC (mV M) 0, (6, .inl (upd (upd (upd (upd (upd (upd (fun _ => 0) 0 (-1 : Int32)) 1 (-1 : Int32)) 2 (-1 : Int32)) 3 (-1 : Int32)) 4 (-1 : Int32)) 5 (-1 : Int32)))))] := bZ
  clear bZ b472
  have c476 := eZ.trans c473
  clear eZ
  refine Y_putF C hI pf_X12_init_226 b475 c476 rfl rfl (Nat.le_of_ble_eq_true rfl) dX12_init_635 (fun ω477 bZ cZ => ?_)
  have b478 := bZ
  clear bZ b475
  have c479 : ω477.2 h = .inr (12, [.int (0 : Int32), .int (0 : Int32), .int (0 : Int32), .ref q10, .ref q17, .ref q24, .ref q31, .ref q38, .ref q45, .ref q52, .ref q59, .int (0 : Int32), .int (-1 : Int32), .int (0 : Int32), .int (0 : Int32), .int (0 : Int32), .ref q81, .ref q88, .ref q95, .ref q102, .ref q109, .ref q116, .ref q123, .ref q130, .int (0 : Int32), .int (0 : Int32), .int (0 : Int32), .ref q146, .int (-1 : Int32), .ref q213, .int (0 : Int32), .ref q223, .ref q230, .int (0 : Int32), .ref q240, .ref q247, .ref q254, .ref q261, .ref q268, .ref q275, .ref q282, .int (0 : Int32), .ref q292, .ref q299, .ref q306, .int (0 : Int32), .int (0 : Int32), .ref q319, .ref q326, .int (0 : Int32), .int (-1 : Int32), .int (0 : Int32), .int (0 : Int32), .int (0 : Int32), .int (0 : Int32), .int (0 : Int32), .ref q354, .ref q361, .ref q368, .ref q375, .ref q382, .ref q389, .ref q396, .ref q403, .ref q410, .ref q417, .ref q424, .ref q431, .ref q438, .int (0 : Int32), .ref q448, .ref q455, .null, .null, .null]) := cZ
  clear cZ
  refine Z_aload_n C dX12_init_638 0 rfl ?_
  refine Z_bipush C dX12_init_639 (v := (6 : Int32)) (by decide +kernel) ?_
  refine Y_newa (t := 0) (a0 := (6, .inl (fun _ => 0))) C hU b478 (List.mem_of_getElem? (i := 7) rfl) rfl rfl (fun _ _ q => q) (fun _ => rfl) (by decide +kernel) rfl (by decide +kernel) (Nat.le_of_ble_eq_true rfl) (Nat.le_of_ble_eq_true rfl) dX12_init_641 (fun q480 ω481 bZ eZ => ?_)
  have b482 : BT ω0 ω481 h [(q10, .inl (vC (mV M) 0, (6, .inl (fun _ => 0)))), (q17, .inl (vC (mV M) 0, (6, .inl (fun _ => 0)))), (q24, .inl (vC (mV M) 0, (6, .inl (fun _ => 0)))), (q31, .inl (vC (mV M) 0, (6, .inl (fun _ => 0)))), (q38, .inl (vC (mV M) 0, (6, .inl (fun _ => 0)))), (q45, .inl (vC (mV M) 0, (6, .inl (fun _ => 0)))), (q52, .inl (vC (mV M) 0, (24, .inl (fun _ => 0)))), (q59, .inl (vC (mV M) 0, (6, .inl (fun _ => 0)))), (q81, .inl (vC (mV M) 0, (100, .inl (fun _ => 0)))), (q88, .inl (vC (mV M) 0, (6, .inl (fun _ => 0)))), (q95, .inl (vC (mV M) 0, (60, .inl (fun _ => 0)))), (q102, .inl (vC (mV M) 0, (60, .inl (fun _ => 0)))), (q109, .inl (vC (mV M) 0, (60, .inl (fun _ => 0)))), (q116, .inl (vC (mV M) 0, (60, .inl (fun _ => 0)))), (q123, .inl (vC (mV M) 0, (600, .inl (fun _ => 0)))), (q130, .inl (vC (mV M) 0, (101, .inl (fun _ => 0)))), (q146, .inl (vC (mV M) 0, (19, .inl (upd (upd (upd (upd (upd (upd (upd (upd (upd (upd (upd (upd (upd (upd (upd (upd (upd (upd (upd (fun _ => 0) 0 (102 : Int32)) 1 (97 : Int32)) 2 (115 : Int32)) 3 (116 : Int32)) 4 (115 : Int32)) 5 (108 : Int32)) 6 (111 : Int32)) 7 (119 : Int32)) 8 (103 : Int32)) 9 (97 : Int32)) 10 (112 : Int32)) 11 (116 : Int32)) 12 (105 : Int32)) 13 (114 : Int32)) 14 (101 : Int32)) 15 (108 : Int32)) 16 (111 : Int32)) 17 (110 : Int32)) 18 (103 : Int32))))), (q213, .inl (vC (mV M) 2, (100, .inl (fun _ => 0)))), (q223, .inl (vC (mV M) 0, (6, .inl (fun _ => 0)))), (q230, .inl (vC (mV M) 0, (6, .inl (fun _ => 0)))), (q240, .inl (vC (mV M) 0, (6, .inl (fun _ => 0)))), (q247, .inl (vC (mV M) 0, (6, .inl (fun _ => 0)))), (q254, .inl (vC (mV M) 0, (6, .inl (fun _ => 0)))), (q261, .inl (vC (mV M) 0, (6, .inl (fun _ => 0)))), (q268, .inl (vC (mV M) 0, (6, .inl (fun _ => 0)))), (q275, .inl (vC (mV M) 0, (6, .inl (fun _ => 0)))), (q282, .inl (vC (mV M) 0, (6, .inl (fun _ => 0)))), (q292, .inl (vC (mV M) 0, (6, .inl (fun _ => 0)))), (q299, .inl (vC (mV M) 0, (6, .inl (fun _ => 0)))), (q306, .inl (vC (mV M) 0, (6, .inl (fun _ => 0)))), (q319, .inl (vC (mV M) 0, (10, .inl (fun _ => 0)))), (q326, .inl (vC (mV M) 0, (8, .inl (fun _ => 0)))), (q354, .inl (vC (mV M) 0, (6, .inl (fun _ => 0)))), (q361, .inl (vC (mV M) 0, (6, .inl (fun _ => 0)))), (q368, .inl (vC (mV M) 0, (6, .inl (fun _ => 0)))), (q375, .inl (vC (mV M) 0, (6, .inl (fun _ => 0)))), (q382, .inl (vC (mV M) 0, (6, .inl (fun _ => 0)))), (q389, .inl (vC (mV M) 0, (6, .inl (fun _ => 0)))), (q396, .inl (vC (mV M) 0, (6, .inl (fun _ => 0)))), (q403, .inl (vC (mV M) 0, (24, .inl (fun _ => 0)))), (q410, .inl (vC (mV M) 0, (6, .inl (fun _ => 0)))), (q417, .inl (vC (mV M) 0, (6, .inl (fun _ => 0)))), (q424, .inl (vC (mV M) 0, (6, .inl (fun _ => 0)))), (q431, .inl (vC (mV M) 0, (10, .inl (fun _ => 0)))), (q438, .inl (vC (mV M) 0, (8, .inl (fun _ => 0)))), (q448, .inl (vC (mV M) 0, (20, .inl (fun _ => 0)))), (q455, .inl (vC (mV M) 0, (6, .inl (upd (upd (upd (upd (upd (upd (fun _ => 0) 0 (-1 : Int32)) 1 (-1 : Int32)) 2 (-1 : Int32)) 3 (-1 : Int32)) 4 (-1 : Int32)) 5 (-1 : Int32))))), (q480, .inl (vC (mV M) 0, (6, .inl (fun _ => 0))))] := bZ
  clear bZ b478
  have cZ := eZ.trans c479
  have c483 := cZ
  clear cZ eZ
  show PR M 643 [(0, .ref h)] [.ref q480, .ref h] ω481 (48, 1456)
  refine Y_putF C hI pf_X12_init_229 b482 c483 rfl rfl (Nat.le_of_ble_eq_true rfl) dX12_init_643 (fun ω484 bZ cZ => ?_)
  have b485 := bZ
  clear bZ b482
  have c486 : ω484.2 h = .inr (12, [.int (0 : Int32), .int (0 : Int32), .int (0 : Int32), .ref q10, .ref q17, .ref q24, .ref q31, .ref q38, .ref q45, .ref q52, .ref q59, .int (0 : Int32), .int (-1 : Int32), .int (0 : Int32), .int (0 : Int32), .int (0 : Int32), .ref q81, .ref q88, .ref q95, .ref q102, .ref q109, .ref q116, .ref q123, .ref q130, .int (0 : Int32), .int (0 : Int32), .int (0 : Int32), .ref q146, .int (-1 : Int32), .ref q213, .int (0 : Int32), .ref q223, .ref q230, .int (0 : Int32), .ref q240, .ref q247, .ref q254, .ref q261, .ref q268, .ref q275, .ref q282, .int (0 : Int32), .ref q292, .ref q299, .ref q306, .int (0 : Int32), .int (0 : Int32), .ref q319, .ref q326, .int (0 : Int32), .int (-1 : Int32), .int (0 : Int32), .int (0 : Int32), .int (0 : Int32), .int (0 : Int32), .int (0 : Int32), .ref q354, .ref q361, .ref q368, .ref q375, .ref q382, .ref q389, .ref q396, .ref q403, .ref q410, .ref q417, .ref q424, .ref q431, .ref q438, .int (0 : Int32), .ref q448, .ref q455, .ref q480, .null, .null]) := cZ
  clear cZ
  refine Z_aload_n C dX12_init_646 0 rfl ?_
  refine Z_sipush C dX12_init_647 (v := (360 : Int32)) (by decide +kernel) ?_
  refine Y_newa (t := 3) (a0 := (360, .inr (.inl (fun _ => 0)))) C hU b485 (List.mem_of_getElem? (i := 79) rfl) rfl rfl (fun _ _ q => q) (fun _ => rfl) (by decide +kernel) rfl (by decide +kernel) (Nat.le_of_ble_eq_true rfl) (Nat.le_of_ble_eq_true rfl) dX12_init_650 (fun q487 ω488 bZ eZ => ?_)
  have b489 := bZ
  clear bZ b485
  have cZ := eZ.trans c486
  have c490 := cZ
  clear cZ eZ
  show PR M 652 [(0, .ref h)] [.ref q487, .ref h] ω488 (49, 1816)
  refine Y_putF C hI pf_X12_init_232 b489 c490 rfl rfl (Nat.le_of_ble_eq_true rfl) dX12_init_652 (fun ω491 bZ cZ => ?_)
  have b492 := bZ
  clear bZ b489
  have c493 : ω491.2 h = .inr (12, [.int (0 : Int32), .int (0 : Int32), .int (0 : Int32), .ref q10, .ref q17, .ref q24, .ref q31, .ref q38, .ref q45, .ref q52, .ref q59, .int (0 : Int32), .int (-1 : Int32), .int (0 : Int32), .int (0 : Int32), .int (0 : Int32), .ref q81, .ref q88, .ref q95, .ref q102, .ref q109, .ref q116, .ref q123, .ref q130, .int (0 : Int32), .int (0 : Int32), .int (0 : Int32), .ref q146, .int (-1 : Int32), .ref q213, .int (0 : Int32), .ref q223, .ref q230, .int (0 : Int32), .ref q240, .ref q247, .ref q254, .ref q261, .ref q268, .ref q275, .ref q282, .int (0 : Int32), .ref q292, .ref q299, .ref q306, .int (0 : Int32), .int (0 : Int32), .ref q319, .ref q326, .int (0 : Int32), .int (-1 : Int32), .int (0 : Int32), .int (0 : Int32), .int (0 : Int32), .int (0 : Int32), .int (0 : Int32), .ref q354, .ref q361, .ref q368, .ref q375, .ref q382, .ref q389, .ref q396, .ref q403, .ref q410, .ref q417, .ref q424, .ref q431, .ref q438, .int (0 : Int32), .ref q448, .ref q455, .ref q480, .ref q487, .null]) := cZ
  clear cZ
  refine Z_aload_n C dX12_init_655 0 rfl ?_
  refine Z_bipush C dX12_init_656 (v := (60 : Int32)) (by decide +kernel) ?_
  refine Y_newa (t := 3) (a0 := (60, .inr (.inl (fun _ => 0)))) C hU b492 (List.mem_of_getElem? (i := 79) rfl) rfl rfl (fun _ _ q => q) (fun _ => rfl) (by decide +kernel) rfl (by decide +kernel) (Nat.le_of_ble_eq_true rfl) (Nat.le_of_ble_eq_true rfl) dX12_init_658 (fun q494 ω495 bZ eZ => ?_)
  have b496 := bZ
  clear bZ b492
  have cZ := eZ.trans c493
  have c497 := cZ
  clear cZ eZ
  show PR M 660 [(0, .ref h)] [.ref q494, .ref h] ω495 (50, 1876)
  refine Y_putF C hI pf_X12_init_236 b496 c497 rfl rfl (Nat.le_of_ble_eq_true rfl) dX12_init_660 (fun ω498 bZ cZ => ?_)
  have b499 : BT ω0 ω498 h [(q10, .inl (vC (mV M) 0, (6, .inl (fun _ => 0)))), (q17, .inl (vC (mV M) 0, (6, .inl (fun _ => 0)))), (q24, .inl (vC (mV M) 0, (6, .inl (fun _ => 0)))), (q31, .inl (vC (mV M) 0, (6, .inl (fun _ => 0)))), (q38, .inl (vC (mV M) 0, (6, .inl (fun _ => 0)))), (q45, .inl (vC (mV M) 0, (6, .inl (fun _ => 0)))), (q52, .inl (vC (mV M) 0, (24, .inl (fun _ => 0)))), (q59, .inl (vC (mV M) 0, (6, .inl (fun _ => 0)))), (q81, .inl (vC (mV M) 0, (100, .inl (fun _ => 0)))), (q88, .inl (vC (mV M) 0, (6, .inl (fun _ => 0)))), (q95, .inl (vC (mV M) 0, (60, .inl (fun _ => 0)))), (q102, .inl (vC (mV M) 0, (60, .inl (fun _ => 0)))), (q109, .inl (vC (mV M) 0, (60, .inl (fun _ => 0)))), (q116, .inl (vC (mV M) 0, (60, .inl (fun _ => 0)))), (q123, .inl (vC (mV M) 0, (600, .inl (fun _ => 0)))), (q130, .inl (vC (mV M) 0, (101, .inl (fun _ => 0)))), (q146, .inl (vC (mV M) 0, (19, .inl (upd (upd (upd (upd (upd (upd (upd (upd (upd (upd (upd (upd (upd (upd (upd (upd (upd (upd (upd (fun _ => 0) 0 (102 : Int32)) 1 (97 : Int32)) 2 (115 : Int32)) 3 (116 : Int32)) 4 (115 : Int32)) 5 (108 : Int32)) 6 (111 : Int32)) 7 (119 : Int32)) 8 (103 : Int32)) 9 (97 : Int32)) 10 (112 : Int32)) 11 (116 : Int32)) 12 (105 : Int32)) 13 (114 : Int32)) 14 (101 : Int32)) 15 (108 : Int32)) 16 (111 : Int32)) 17 (110 : Int32)) 18 (103 : Int32))))), (q213, .inl (vC (mV M) 2, (100, .inl (fun _ => 0)))), (q223, .inl (vC (mV M) 0, (6, .inl (fun _ => 0)))), (q230, .inl (vC (mV M) 0, (6, .inl (fun _ => 0)))), (q240, .inl (vC (mV M) 0, (6, .inl (fun _ => 0)))), (q247, .inl (vC (mV M) 0, (6, .inl (fun _ => 0)))), (q254, .inl (vC (mV M) 0, (6, .inl (fun _ => 0)))), (q261, .inl (vC (mV M) 0, (6, .inl (fun _ => 0)))), (q268, .inl (vC (mV M) 0, (6, .inl (fun _ => 0)))), (q275, .inl (vC (mV M) 0, (6, .inl (fun _ => 0)))), (q282, .inl (vC (mV M) 0, (6, .inl (fun _ => 0)))), (q292, .inl (vC (mV M) 0, (6, .inl (fun _ => 0)))), (q299, .inl (vC (mV M) 0, (6, .inl (fun _ => 0)))), (q306, .inl (vC (mV M) 0, (6, .inl (fun _ => 0)))), (q319, .inl (vC (mV M) 0, (10, .inl (fun _ => 0)))), (q326, .inl (vC (mV M) 0, (8, .inl (fun _ => 0)))), (q354, .inl (vC (mV M) 0, (6, .inl (fun _ => 0)))), (q361, .inl (vC (mV M) 0, (6, .inl (fun _ => 0)))), (q368, .inl (vC (mV M) 0, (6, .inl (fun _ => 0)))), (q375, .inl (vC (mV M) 0, (6, .inl (fun _ => 0)))), (q382, .inl (vC (mV M) 0, (6, .inl (fun _ => 0)))), (q389, .inl (vC (mV M) 0, (6, .inl (fun _ => 0)))), (q396, .inl (vC (mV M) 0, (6, .inl (fun _ => 0)))), (q403, .inl (vC (mV M) 0, (24, .inl (fun _ => 0)))), (q410, .inl (vC (mV M) 0, (6, .inl (fun _ => 0)))), (q417, .inl (vC (mV M) 0, (6, .inl (fun _ => 0)))), (q424, .inl (vC (mV M) 0, (6, .inl (fun _ => 0)))), (q431, .inl (vC (mV M) 0, (10, .inl (fun _ => 0)))), (q438, .inl (vC (mV M) 0, (8, .inl (fun _ => 0)))), (q448, .inl (vC (mV M) 0, (20, .inl (fun _ => 0)))), (q455, .inl (vC (mV M) 0, (6, .inl (upd (upd (upd (upd (upd (upd (fun _ => 0) 0 (-1 : Int32)) 1 (-1 : Int32)) 2 (-1 : Int32)) 3 (-1 : Int32)) 4 (-1 : Int32)) 5 (-1 : Int32))))), (q480, .inl (vC (mV M) 0, (6, .inl (fun _ => 0)))), (q487, .inl (vC (mV M) 3, (360, .inr (.inl (fun _ => 0))))), (q494, .inl (vC (mV M) 3, (60, .inr (.inl (fun _ => 0)))))] := bZ
  clear bZ b496
  have c500 : ω498.2 h = .inr (12, [.int (0 : Int32), .int (0 : Int32), .int (0 : Int32), .ref q10, .ref q17, .ref q24, .ref q31, .ref q38, .ref q45, .ref q52, .ref q59, .int (0 : Int32), .int (-1 : Int32), .int (0 : Int32), .int (0 : Int32), .int (0 : Int32), .ref q81, .ref q88, .ref q95, .ref q102, .ref q109, .ref q116, .ref q123, .ref q130, .int (0 : Int32), .int (0 : Int32), .int (0 : Int32), .ref q146, .int (-1 : Int32), .ref q213, .int (0 : Int32), .ref q223, .ref q230, .int (0 : Int32), .ref q240, .ref q247, .ref q254, .ref q261, .ref q268, .ref q275, .ref q282, .int (0 : Int32), .ref q292, .ref q299, .ref q306, .int (0 : Int32), .int (0 : Int32), .ref q319, .ref q326, .int (0 : Int32), .int (-1 : Int32), .int (0 : Int32), .int (0 : Int32), .int (0 : Int32), .int (0 : Int32), .int (0 : Int32), .ref q354, .ref q361, .ref q368, .ref q375, .ref q382, .ref q389, .ref q396, .ref q403, .ref q410, .ref q417, .ref q424, .ref q431, .ref q438, .int (0 : Int32), .ref q448, .ref q455, .ref q480, .ref q487, .ref q494]) := cZ
  clear cZ
  exact Z_vret C dX12_init_663 ⟨q10, q17, q24, q31, q38, q45, q52, q59, q81, q88, q95, q102, q109, q116, q123, q130, q146, q213, q223, q230, q240, q247, q254, q261, q268, q275, q282, q292, q299, q306, q319, q326, q354, q361, q368, q375, q382, q389, q396, q403, q410, q417, q424, q431, q438, q448, q455, q480, q487, q494, b499, c500⟩
/-! the row: who stands where -/
noncomputable def HL (σ : Sg) (a : Int32) (h : Nat) : Prop := ∀ m : Nat, (m : Int) < (gi σ 74 0).toInt → nI m ≠ a → ∃ k : Nat, (k : Int) < (gi σ 74 0).toInt ∧ k ≠ h ∧ gi σ 110 k = nI m
theorem HL_start {σ : Sg} {a : Int32} {h : Nat} (q : PL σ) (e : gi σ 110 h = a) : HL σ a h := fun m hm hne => by
  obtain ⟨k, hk, ek⟩ := q m hm
  exact ⟨k, hk, fun z => hne (by rw [← ek, z, e]), ek⟩
theorem HL_step {σ : Sg} {a v : Int32} {h h' : Nat} (q : HL σ a h) (hv : v = gi σ 110 h') (hne : h ≠ h') (hc : (h : Int) < (gi σ 74 0).toInt) : HL (si σ 110 h v) a h' := fun m hm hma => by
  rw [gi_si_ne (Or.inl (by decide +kernel))] at hm ⊢
  obtain ⟨k, hk, kh, ek⟩ := q m hm hma
  by_cases e : k = h'
  · exact ⟨h, hc, hne, by rw [gi_si_eq, hv, ← e]; exact ek⟩
  · exact ⟨k, hk, e, by rw [gi_si_ne (Or.inr kh)]; exact ek⟩
theorem PL_end {σ : Sg} {a : Int32} {h : Nat} (q : HL σ a h) (hc : (h : Int) < (gi σ 74 0).toInt) : PL (si σ 110 h a) := fun m hm => by
  rw [gi_si_ne (Or.inl (by decide +kernel))] at hm ⊢
  by_cases e : nI m = a
  · exact ⟨h, hc, by rw [gi_si_eq]; exact e.symm⟩
  · obtain ⟨k, hk, kh, ek⟩ := q m hm e
    exact ⟨k, hk, by rw [gi_si_ne (Or.inr kh)]; exact ek⟩
noncomputable def HZ (σ : Sg) (a x2 x4 : Int32) : Prop := (x4.toInt ≤ x2.toInt → HL σ a x2.toNatClampNeg) ∧ (x2.toInt < x4.toInt → HL σ a x4.toNatClampNeg)
theorem HL_tn {σ : Sg} {a x y : Int32} (e : x.toInt = y.toInt) (q : HL σ a x.toNatClampNeg) : HL σ a y.toNatClampNeg := by rw [← tnc e]; exact q
/-- a row holds what another held at first, as far as the n-th -/
noncomputable def CD (σ0 σ : Sg) (a b : Nat) (n : Int) : Prop := ∀ k : Nat, (k : Int) < n → gi σ a k = gi σ0 b k
theorem CD_0 {σ0 σ : Sg} {a b : Nat} {n : Int} (h : n ≤ 0) : CD σ0 σ a b n := fun k hk => by omega
theorem CD_rf {σ : Sg} {a : Nat} {n : Int} : CD σ σ a a n := fun _ _ => rfl
theorem CD_st {σ0 σ : Sg} {a b c j : Nat} {v : Int32} {n : Int} (h : CD σ0 σ a b n) (hc : c ≠ a) : CD σ0 (si σ c j v) a b n := fun k hk => (gi_si_ne (Or.inl (fun e => hc e.symm))).trans (h k hk)
theorem CD_fr {S F : List Nat} {σ0 σ σ' : Sg} {a b : Nat} {n : Int} (h : CD σ0 σ a b n) (f : Fr S F σ σ') (ha : a ∉ S) : CD σ0 σ' a b n := fun k hk => (congrFun (f.1 a ha).1 k).trans (h k hk)
theorem CD_step {σ0 σ : Sg} {a b c : Nat} {x : Int32} (h : CD σ0 σ a b x.toInt) (l : CD σ0 σ c b 6) (h0 : 0 ≤ x.toInt) (h6 : x.toInt ≤ 5) : CD σ0 (si σ a x.toNatClampNeg (gi σ c x.toNatClampNeg)) a b (x.toInt + 1) := fun k hk => by
  have e := cl_eq h0
  by_cases z : k = x.toNatClampNeg
  · rw [z, gi_si_eq]; exact l _ (by omega)
  · rw [gi_si_ne (Or.inr z)]; exact h k (by omega)
theorem CD_le {σ0 σ : Sg} {a b : Nat} {n m : Int} (h : CD σ0 σ a b n) (q : m ≤ n) : CD σ0 σ a b m := fun k hk => h k (by omega)
theorem PL_cd {σ σ' : Sg} (m : MI σ) (h : PL σ) (c : CD σ σ' 110 110 6) (e : (gi σ' 74 0).toInt = (gi σ 74 0).toInt) : PL σ' := fun j hj => by
  rw [e] at hj ⊢
  obtain ⟨k, hk, ek⟩ := h j hj
  have b := MI_f0 m
  exact ⟨k, hk, (c k (by omega)).trans ek⟩
/-- the image's row -/
noncomputable def PLI (σ : Sg) : Prop := ∀ m : Nat, (m : Int) < (gi σ 74 51).toInt → ∃ k : Nat, (k : Int) < (gi σ 74 51).toInt ∧ gi σ 162 k = nI m
theorem PLI_fr {S F : List Nat} {σ σ' : Sg} (h : PLI σ) (f : Fr S F σ σ') (h1 : 162 ∉ S) (h2 : 51 ∉ F) : PLI σ' := by
  intro m hm
  rw [f.2.1 51 h2] at hm ⊢
  obtain ⟨k, hk, e⟩ := h m hm
  exact ⟨k, hk, (congrFun (f.1 162 h1).1 k).trans e⟩
theorem PLI_mk {σ σ' : Sg} (m : MI σ) (h : PL σ) (c : CD σ σ' 162 110 6) (e : (gi σ' 74 51).toInt = (gi σ 74 0).toInt) : PLI σ' := fun j hj => by
  rw [e] at hj ⊢
  obtain ⟨k, hk, ek⟩ := h j hj
  have b := MI_f0 m
  exact ⟨k, hk, (c k (by omega)).trans ek⟩
theorem PL_un {σ σ' : Sg} (m : MI σ) (h : PLI σ) (c : CD σ σ' 110 162 6) (e : (gi σ' 74 0).toInt = (gi σ 74 51).toInt) : PL σ' := fun j hj => by
  rw [e] at hj ⊢
  obtain ⟨k, hk, ek⟩ := h j hj
  have b := MI_f51 m
  exact ⟨k, hk, (c k (by omega)).trans ek⟩
noncomputable def PLx (σ : Sg) (n : Int) : Prop := ∀ m : Nat, (m : Int) < n → ∃ k : Nat, (k : Int) < n ∧ gi σ 110 k = nI m
theorem PLx_new {σ : Sg} {x : Int32} (h : PL σ) (h0 : 0 ≤ x.toInt) (e : x.toInt = (gi σ 74 0).toInt) : PLx (si σ 110 x.toNatClampNeg x) ((gi σ 74 0).toInt + 1) := fun m hm => by
  have ec := cl_eq h0
  have ex : x = nI x.toNatClampNeg := Int32.toInt_inj.mp (by rw [nI_toInt (by have := Int32.toInt_lt x; omega)]; exact ec.symm)
  by_cases z : m = x.toNatClampNeg
  · exact ⟨x.toNatClampNeg, by omega, by rw [gi_si_eq, z]; exact ex⟩
  · obtain ⟨k, hk, ek⟩ := h m (by omega)
    exact ⟨k, by omega, by rw [gi_si_ne (Or.inr (by omega))]; exact ek⟩
theorem PLx_st {σ : Sg} {n : Int} {c j : Nat} {v : Int32} (h : PLx σ n) (hc : c ≠ 110) : PLx (si σ c j v) n := fun m hm => by
  obtain ⟨k, hk, ek⟩ := h m hm
  exact ⟨k, hk, by rw [gi_si_ne (Or.inl (fun e => hc e.symm))]; exact ek⟩
theorem PL_st {σ : Sg} {c j : Nat} {v : Int32} (h : PL σ) (hc : c ≠ 110) (h74 : c ≠ 74) : PL (si σ c j v) := fun m hm => by
  rw [gi_si_ne (Or.inl (fun e => h74 e.symm))] at hm ⊢
  obtain ⟨k, hk, ek⟩ := h m hm
  exact ⟨k, hk, by rw [gi_si_ne (Or.inl (fun e => hc e.symm))]; exact ek⟩
theorem CD_tr {σ0 σ σ' : Sg} {a : Nat} {n : Int} (h : CD σ0 σ a a n) (g : CD σ σ' a a n) : CD σ0 σ' a a n := fun k hk => (g k hk).trans (h k hk)
set_option maxRecDepth 100000 in
set_option maxHeartbeats 4000000 in
theorem kl_X12_aloneBehind {l : Launch} {V : Vx} {a1 : Int32} {a2 : Int32} {σ0 : Sg} {Qk : Int32 → Sg → Prop} (m0 : MI σ0) (l_a1 : 0 ≤ a1.toInt) (u_a1 : a1.toInt ≤ 5) (l_a2 : 1 ≤ a2.toInt) (u_a2 : a2.toInt ≤ 60) (pre0 : (gi σ0 74 1).toInt ≤ 9999) (h9ret : ∀ (r : Int32) (σ' : Sg), MI σ' → Fr [74, 105, 106, 107, 108, 110, 129, 131, 132, 134, 135, 136, 137, 138] [1, 2, 30, 33] σ0 σ' → ((gi σ' 74 1).toInt = (gi σ0 74 1).toInt) → (CD σ0 σ' 110 110 6) → Qk r σ') : K_X12_aloneBehind l V a1 a2 σ0 Qk := by
  refine e_X12_aloneBehind (fun M hl hV hN C => ?_)
  subst hl
  subst hV
  have T : ∀ n : Nat, (∀ (x1 : Int32) (x2 : Int32) (x3 : Int32) (σ : Sg), MI σ → Fr [74, 105, 106, 107, 108, 110, 129, 131, 132, 134, 135, 136, 137, 138] [1, 2, 30, 33] σ0 σ → (0 ≤ x1.toInt) → (x1.toInt ≤ 5) → (1 ≤ x2.toInt) → (x2.toInt ≤ 60) → (0 ≤ x3.toInt) → (x3.toInt ≤ 6) → ((gi σ 74 1).toInt = (gi σ0 74 1).toInt) → ((gi σ 74 33).toInt = (gi σ0 74 1).toInt) → (CD σ0 σ 110 110 6) → (CD σ0 σ 138 110 x3.toInt) → (7 - x3.toInt).toNat + 20 < n → PS M 6 [(0, .ref 74), (1, .int x1), (2, .int x2), (3, .int x3)] [] σ (0, 0)) ∧ (∀ (x3 : Int32) (x4 : Int32) (σ : Sg), MI σ → Fr [74, 105, 106, 107, 108, 110, 129, 131, 132, 134, 135, 136, 137, 138] [1, 2, 30, 33] σ0 σ → (0 ≤ x4.toInt) → (x4.toInt ≤ 6) → ((gi σ 74 33).toInt = (gi σ0 74 1).toInt) → (CD σ0 σ 138 110 6) → (CD σ0 σ 110 110 x4.toInt) → (7 - x4.toInt).toNat < n → PS M 57 [(0, .ref 74), (3, .int x3), (4, .int x4)] [] σ (0, 0)) := by
    intro n
    induction n with
    | zero => exact ⟨fun _ _ _ _ _ _ _ _ _ _ _ _ _ _ _ _ h8 => absurd h8 (Nat.not_lt_zero _), fun _ _ _ _ _ _ _ _ _ _ h8 => absurd h8 (Nat.not_lt_zero _)⟩
    | succ n ih =>
      obtain ⟨ih6, ih57⟩ := ih
      refine ⟨?_, ?_⟩
      · intro x1 x2 x3 σ mσ fσ lx1 ux1 lx2 ux2 lx3 ux3 i0 i1 i2 i3 hmu
        refine s_X12_aloneBehind_6 C hN ?_
        refine ⟨?_, ?_⟩
        · intro q_1
          have b_2 : (6 : Int) ≤ x3.toInt := Int32.le_iff_toInt_le.mp q_1
          have hC9 : CD σ0 σ 138 110 6 := CD_le i3 (by omega)
          have z_3 : (0 : Int32).toInt = 0 := rfl
          have hv_4 : vp_in (0 : Int32) 6 := vp_in_iff.mpr ⟨by omega, by omega⟩
          refine ⟨hv_4, ?_⟩
          intro σ3 eσ3
          have mσ3 : MI σ3 := by rw [eσ3]; exact MIs_a110 mσ (by omega) (by omega)
          have fσ3 : Fr [74, 105, 106, 107, 108, 110, 129, 131, 132, 134, 135, 136, 137, 138] [1, 2, 30, 33] σ0 σ3 := by rw [eσ3]; exact Fr_si fσ (by decide +kernel) (fun h9 => absurd h9 (by decide +kernel))
          have k_5 : (gi σ3 74 1).toInt = (gi σ 74 1).toInt := gk_l eσ3 rfl
          have k_6 : (gi σ3 74 33).toInt = (gi σ 74 33).toInt := gk_l eσ3 rfl
          try have hC9 : CD σ0 σ3 138 110 (6) := by rw [eσ3]; exact CD_st (by first | with_reducible assumption | assumption) (by decide +kernel)
          try have hC9 : CD σ0 σ3 110 110 (6) := by rw [eσ3]; exact CD_st (by first | with_reducible assumption | assumption) (by decide +kernel)
          intro σ4 eσ4
          have z_7 : (1 : Int32).toInt = 1 := rfl
          have mσ4 : MI σ4 := by rw [eσ4]; exact MIs_f2 mσ3 (by omega) (by omega)
          have fσ4 : Fr [74, 105, 106, 107, 108, 110, 129, 131, 132, 134, 135, 136, 137, 138] [1, 2, 30, 33] σ0 σ4 := by rw [eσ4]; exact Fr_si fσ3 (by decide +kernel) (fun _ => by decide +kernel)
          have k_8 : (gi σ4 74 1).toInt = (gi σ3 74 1).toInt := gk_r eσ4 rfl
          have k_9 : (gi σ4 74 33).toInt = (gi σ3 74 33).toInt := gk_r eσ4 rfl
          try have hC9 : CD σ0 σ4 138 110 (6) := by rw [eσ4]; exact CD_st (by first | with_reducible assumption | assumption) (by decide +kernel)
          try have hC9 : CD σ0 σ4 110 110 (6) := by rw [eσ4]; exact CD_st (by first | with_reducible assumption | assumption) (by decide +kernel)
          refine k_X12_goMinutes mσ4 (by omega) (by omega) (by first | with_reducible assumption | with_reducible rfl | omega | assumption | rfl) (fun σ5 mσ5 cσ5 (pσ5_0 : (x2.toInt ≤ 0 ∧ (gi σ5 74 1).toInt = (gi σ4 74 1).toInt) ∨ (0 ≤ x2.toInt ∧ (gi σ5 74 1).toInt = (gi σ4 74 1).toInt + x2.toInt)) => ?_)
          have fσ5 : Fr [74, 105, 106, 107, 108, 110, 129, 131, 132, 134, 135, 136, 137, 138] [1, 2, 30, 33] σ0 σ5 := Fr_tr fσ4 cσ5 (by decide +kernel) (by decide +kernel)
          have k_10 : (gi σ5 74 33).toInt = (gi σ4 74 33).toInt := congrArg Int32.toInt (cσ5.2.1 33 (by decide +kernel))
          try have hC9 : CD σ0 σ5 138 110 (6) := CD_fr (by first | with_reducible assumption | assumption) cσ5 (by decide +kernel)
          try have hC9 : CD σ0 σ5 110 110 (6) := CD_fr (by first | with_reducible assumption | assumption) cσ5 (by decide +kernel)
          have hv_11 : vp_in x1 6 := vp_in_iff.mpr ⟨by omega, by omega⟩
          refine ⟨hv_11, ?_⟩
          intro v7 ev7
          have t_12 := MI_a105 mσ5 hv_11
          have t_13 : v7.toInt = (gi σ5 105 x1.toNatClampNeg).toInt := congrArg Int32.toInt ev7
          exact ih57 v7 (0 : Int32) σ5 mσ5 fσ5 (by omega) (by omega) (by first | with_reducible assumption | with_reducible rfl | omega | assumption | rfl) (by first | assumption | (rw [eσ6]; exact CD_st i1 (by decide +kernel))) (by first | exact CD_0 (Int.le_refl 0) | (rw [show v7.toInt = x4.toInt + 1 from by omega, eσ6]; exact CD_step i2 i1 (by omega) (by omega))) (by omega)
        · intro q_1
          have b_14 : ¬ (6 : Int) ≤ x3.toInt := fun h9 => q_1 (Int32.le_iff_toInt_le.mpr h9)
          have hv_15 : vp_in x3 6 := vp_in_iff.mpr ⟨by omega, by omega⟩
          refine ⟨hv_15, ?_⟩
          refine ⟨hv_15, ?_⟩
          intro σ10 eσ10
          have t_16 := MI_a110 mσ hv_15
          have mσ10 : MI σ10 := by rw [eσ10]; exact MIs_a138 mσ (by omega) (by omega)
          have fσ10 : Fr [74, 105, 106, 107, 108, 110, 129, 131, 132, 134, 135, 136, 137, 138] [1, 2, 30, 33] σ0 σ10 := by rw [eσ10]; exact Fr_si fσ (by decide +kernel) (fun h9 => absurd h9 (by decide +kernel))
          have k_17 : (gi σ10 74 1).toInt = (gi σ 74 1).toInt := gk_l eσ10 rfl
          have k_18 : (gi σ10 74 33).toInt = (gi σ 74 33).toInt := gk_l eσ10 rfl
          try have hC9 : CD σ0 σ10 138 110 (6) := by rw [eσ10]; exact CD_st (by first | with_reducible assumption | assumption) (by decide +kernel)
          try have hC9 : CD σ0 σ10 110 110 (6) := by rw [eσ10]; exact CD_st (by first | with_reducible assumption | assumption) (by decide +kernel)
          intro v11 ev11
          have t_19 : (x3 + (1 : Int32)).toInt = x3.toInt + 1 := i_add (x := x3) (y := (1 : Int32)) (by show (_ : Int) ≤ x3.toInt + 1; omega) (by show x3.toInt + 1 ≤ (_ : Int); omega)
          have t_20 : v11.toInt = (x3 + (1 : Int32)).toInt := congrArg Int32.toInt ev11
          exact ih6 x1 x2 v11 σ10 mσ10 fσ10 (by omega) (by omega) (by omega) (by omega) (by omega) (by omega) (by first | with_reducible assumption | with_reducible rfl | omega | assumption | rfl) (by first | with_reducible assumption | with_reducible rfl | omega | assumption | rfl) (by first | exact CD_fr CD_rf cσ1 (by decide +kernel) | (rw [eσ10]; exact CD_st i2 (by decide +kernel))) (by first | exact CD_0 (Int.le_refl 0) | (rw [show v11.toInt = x3.toInt + 1 from by omega, eσ10]; exact CD_step i3 i2 (by omega) (by omega))) (by omega)
      · intro x3 x4 σ mσ fσ lx4 ux4 i0 i1 i2 hmu
        refine s_X12_aloneBehind_57 C hN ?_
        refine ⟨?_, ?_⟩
        · intro q_21
          have b_22 : (6 : Int) ≤ x4.toInt := Int32.le_iff_toInt_le.mp q_21
          have hC9 : CD σ0 σ 110 110 6 := CD_le i2 (by omega)
          intro σ2 eσ2
          have t_23 := MI_f0 mσ
          have mσ2 : MI σ2 := by rw [eσ2]; exact MIs_f2 mσ (by omega) (by omega)
          have fσ2 : Fr [74, 105, 106, 107, 108, 110, 129, 131, 132, 134, 135, 136, 137, 138] [1, 2, 30, 33] σ0 σ2 := by rw [eσ2]; exact Fr_si fσ (by decide +kernel) (fun _ => by decide +kernel)
          have k_24 : (gi σ2 74 0).toInt = (gi σ 74 0).toInt := gk_r eσ2 rfl
          have k_25 : (gi σ2 74 1).toInt = (gi σ 74 1).toInt := gk_r eσ2 rfl
          have k_26 : (gi σ2 74 33).toInt = (gi σ 74 33).toInt := gk_r eσ2 rfl
          try have hC9 : CD σ0 σ2 138 110 (6) := by rw [eσ2]; exact CD_st (by first | with_reducible assumption | assumption) (by decide +kernel)
          try have hC9 : CD σ0 σ2 110 110 (6) := by rw [eσ2]; exact CD_st (by first | with_reducible assumption | assumption) (by decide +kernel)
          refine k_X12_putBack mσ2  (fun σ3 mσ3 cσ3 (pσ3_0 : (gi σ3 74 1).toInt = (gi σ2 74 33).toInt) => ?_)
          have fσ3 : Fr [74, 105, 106, 107, 108, 110, 129, 131, 132, 134, 135, 136, 137, 138] [1, 2, 30, 33] σ0 σ3 := Fr_tr fσ2 cσ3 (by decide +kernel) (by decide +kernel)
          have k_27 : (gi σ3 74 0).toInt = (gi σ2 74 0).toInt := congrArg Int32.toInt (cσ3.2.1 0 (by decide +kernel))
          have k_28 : (gi σ3 74 33).toInt = (gi σ2 74 33).toInt := congrArg Int32.toInt (cσ3.2.1 33 (by decide +kernel))
          try have hC9 : CD σ0 σ3 138 110 (6) := CD_fr (by first | with_reducible assumption | assumption) cσ3 (by decide +kernel)
          try have hC9 : CD σ0 σ3 110 110 (6) := CD_fr (by first | with_reducible assumption | assumption) cσ3 (by decide +kernel)
          exact h9ret x3 σ3 mσ3 fσ3 (by first | with_reducible assumption | with_reducible rfl | omega | assumption | rfl) (by first | with_reducible assumption | assumption)
        · intro q_21
          have b_29 : ¬ (6 : Int) ≤ x4.toInt := fun h9 => q_21 (Int32.le_iff_toInt_le.mpr h9)
          have hv_30 : vp_in x4 6 := vp_in_iff.mpr ⟨by omega, by omega⟩
          refine ⟨hv_30, ?_⟩
          refine ⟨hv_30, ?_⟩
          intro σ6 eσ6
          have t_31 := MI_a138 mσ hv_30
          have mσ6 : MI σ6 := by rw [eσ6]; exact MIs_a110 mσ (by omega) (by omega)
          have fσ6 : Fr [74, 105, 106, 107, 108, 110, 129, 131, 132, 134, 135, 136, 137, 138] [1, 2, 30, 33] σ0 σ6 := by rw [eσ6]; exact Fr_si fσ (by decide +kernel) (fun h9 => absurd h9 (by decide +kernel))
          have k_32 : (gi σ6 74 1).toInt = (gi σ 74 1).toInt := gk_l eσ6 rfl
          have k_33 : (gi σ6 74 33).toInt = (gi σ 74 33).toInt := gk_l eσ6 rfl
          try have hC9 : CD σ0 σ6 138 110 (6) := by rw [eσ6]; exact CD_st (by first | with_reducible assumption | assumption) (by decide +kernel)
          try have hC9 : CD σ0 σ6 110 110 (6) := by rw [eσ6]; exact CD_st (by first | with_reducible assumption | assumption) (by decide +kernel)
          intro v7 ev7
          have t_34 : (x4 + (1 : Int32)).toInt = x4.toInt + 1 := i_add (x := x4) (y := (1 : Int32)) (by show (_ : Int) ≤ x4.toInt + 1; omega) (by show x4.toInt + 1 ≤ (_ : Int); omega)
          have t_35 : v7.toInt = (x4 + (1 : Int32)).toInt := congrArg Int32.toInt ev7
          exact ih57 x3 v7 σ6 mσ6 fσ6 (by omega) (by omega) (by first | with_reducible assumption | with_reducible rfl | omega | assumption | rfl) (by first | assumption | (rw [eσ6]; exact CD_st i1 (by decide +kernel))) (by first | exact CD_0 (Int.le_refl 0) | (rw [show v7.toInt = x4.toInt + 1 from by omega, eσ6]; exact CD_step i2 i1 (by omega) (by omega))) (by omega)
  obtain ⟨U6, U57⟩ := T 60
  have f0 : Fr [74, 105, 106, 107, 108, 110, 129, 131, 132, 134, 135, 136, 137, 138] [1, 2, 30, 33] σ0 σ0 := Fr_rf
  refine s_X12_aloneBehind_0 C hN ?_
  refine k_X12_save m0  (fun σ1 mσ1 cσ1 (pσ1_0 : (gi σ1 74 33).toInt = (gi σ0 74 1).toInt) => ?_)
  have fσ1 : Fr [74, 105, 106, 107, 108, 110, 129, 131, 132, 134, 135, 136, 137, 138] [1, 2, 30, 33] σ0 σ1 := Fr_tr f0 cσ1 (by decide +kernel) (by decide +kernel)
  have k_36 : (gi σ1 74 1).toInt = (gi σ0 74 1).toInt := congrArg Int32.toInt (cσ1.2.1 1 (by decide +kernel))
  try have hC9 : CD σ0 σ1 138 110 (6) := CD_fr (by first | with_reducible assumption | assumption) cσ1 (by decide +kernel)
  try have hC9 : CD σ0 σ1 110 110 (6) := CD_fr (by first | with_reducible assumption | assumption) cσ1 (by decide +kernel)
  have z_37 : (0 : Int32).toInt = 0 := rfl
  exact U6 a1 a2 (0 : Int32) σ1 mσ1 fσ1 (by omega) (by omega) (by omega) (by omega) (by omega) (by omega) (by first | with_reducible assumption | with_reducible rfl | omega | assumption | rfl) (by first | with_reducible assumption | with_reducible rfl | omega | assumption | rfl) (by first | exact CD_fr CD_rf cσ1 (by decide +kernel) | (rw [eσ10]; exact CD_st i2 (by decide +kernel))) (by first | exact CD_0 (Int.le_refl 0) | (rw [show v11.toInt = x3.toInt + 1 from by omega, eσ10]; exact CD_step i3 i2 (by omega) (by omega))) (by omega)
set_option maxRecDepth 100000 in
set_option maxHeartbeats 4000000 in
theorem kl_X12_alone {l : Launch} {V : Vx} {a1 : Int32} {σ0 : Sg} {Qk : Int32 → Sg → Prop} (m0 : MI σ0) (pre0 : (gi σ0 74 1).toInt ≤ 9999) (h9ret : ∀ (r : Int32) (σ' : Sg), MI σ' → Fr [74, 105, 106, 107, 108, 110, 129, 131, 132, 134, 135, 136, 137, 138] [1, 2, 30, 33] σ0 σ' → ((gi σ' 74 1).toInt = (gi σ0 74 1).toInt) → (CD σ0 σ' 110 110 6) → Qk r σ') : K_X12_alone l V a1 σ0 Qk := by
  refine e_X12_alone (fun M hl hV hN C => ?_)
  subst hl
  subst hV
  have T : ∀ n : Nat, (∀ (x1 : Int32) (x2 : Int32) (x3 : Int32) (σ : Sg), MI σ → Fr [74, 105, 106, 107, 108, 110, 129, 131, 132, 134, 135, 136, 137, 138] [1, 2, 30, 33] σ0 σ → (1 ≤ x1.toInt) → (x1.toInt ≤ 60) → (0 ≤ x3.toInt) → (x3.toInt ≤ 6) → ((gi σ 74 1).toInt = (gi σ0 74 1).toInt) → (CD σ0 σ 110 110 6) → (7 - x3.toInt).toNat < n → PS M 23 [(0, .ref 74), (1, .int x1), (2, .int x2), (3, .int x3)] [] σ (0, 0)) := by
    intro n
    induction n with
    | zero => exact fun _ _ _ _ _ _ _ _ _ _ _ _ h8 => absurd h8 (Nat.not_lt_zero _)
    | succ n ih =>
      have ih23 := ih
      · intro x1 x2 x3 σ mσ fσ lx1 ux1 lx3 ux3 i0 i1 hmu
        refine s_X12_alone_23 C hN ?_
        refine ⟨?_, ?_⟩
        · intro q_1
          have t_2 := MI_f0 mσ
          have b_3 : (gi σ 74 0).toInt ≤ x3.toInt := Int32.le_iff_toInt_le.mp q_1
          exact h9ret x2 σ mσ fσ (by first | with_reducible assumption | with_reducible rfl | omega | assumption | rfl) (by first | assumption | exact CD_rf)
        · intro q_1
          have t_4 := MI_f0 mσ
          have b_5 : ¬ (gi σ 74 0).toInt ≤ x3.toInt := fun h9 => q_1 (Int32.le_iff_toInt_le.mpr h9)
          refine kl_X12_aloneBehind mσ (by omega) (by omega) (by omega) (by omega) (by first | with_reducible assumption | with_reducible rfl | omega | assumption | rfl) (fun r3 σ2 mσ2 cσ2 (pσ2_0 : (gi σ2 74 1).toInt = (gi σ 74 1).toInt) (pσ2_1 : CD σ σ2 110 110 6) => ?_)
          have fσ2 : Fr [74, 105, 106, 107, 108, 110, 129, 131, 132, 134, 135, 136, 137, 138] [1, 2, 30, 33] σ0 σ2 := Fr_tr fσ cσ2 (by decide +kernel) (by decide +kernel)
          have k_6 : (gi σ2 74 0).toInt = (gi σ 74 0).toInt := congrArg Int32.toInt (cσ2.2.1 0 (by decide +kernel))
          have hC9 : CD σ0 σ2 110 110 6 := CD_tr i1 pσ2_1
          intro v4 ev4
          intro v5 ev5
          have t_7 : (x3 + (1 : Int32)).toInt = x3.toInt + 1 := i_add (x := x3) (y := (1 : Int32)) (by show (_ : Int) ≤ x3.toInt + 1; omega) (by show x3.toInt + 1 ≤ (_ : Int); omega)
          have t_8 : v5.toInt = (x3 + (1 : Int32)).toInt := congrArg Int32.toInt ev5
          exact ih23 x1 v4 v5 σ2 mσ2 fσ2 (by omega) (by omega) (by omega) (by omega) (by first | with_reducible assumption | with_reducible rfl | omega | assumption | rfl) (by first | assumption | exact CD_fr CD_rf cσ4 (by decide +kernel)) (by omega)
  have U23 := T 20
  have f0 : Fr [74, 105, 106, 107, 108, 110, 129, 131, 132, 134, 135, 136, 137, 138] [1, 2, 30, 33] σ0 σ0 := Fr_rf
  refine s_X12_alone_0 C hN ?_
  refine k_X12_in m0  (fun r2 σ1 mσ1 cσ1 plσ1 phσ1 (pσ1_0 : (r2.toInt = 1 ∧ (1 : Int) ≤ a1.toInt ∧ a1.toInt ≤ (60 : Int)) ∨ (r2.toInt = 0 ∧ (a1.toInt < (1 : Int) ∨ (60 : Int) < a1.toInt))) => ?_)
  obtain rfl := Fr_nil cσ1
  refine ⟨?_, ?_⟩
  · intro q_9
    have b_10 : ¬ r2.toInt = 0 := fun h9 => q_9 (Int32.toInt_inj.mp h9)
    refine k_X12_allBehind m0 (by omega) (by omega) (by first | with_reducible assumption | with_reducible rfl | omega | assumption | rfl) (fun r5 σ4 mσ4 cσ4 plσ4 phσ4 (pσ4_0 : (gi σ4 74 1).toInt = (gi σ0 74 1).toInt) => ?_)
    have fσ4 : Fr [74, 105, 106, 107, 108, 110, 129, 131, 132, 134, 135, 136, 137, 138] [1, 2, 30, 33] σ0 σ4 := Fr_tr f0 cσ4 (by decide +kernel) (by decide +kernel)
    have z_11 : (0 : Int32).toInt = 0 := rfl
    exact U23 a1 r5 (0 : Int32) σ4 mσ4 fσ4 (by omega) (by omega) (by omega) (by omega) (by first | with_reducible assumption | with_reducible rfl | omega | assumption | rfl) (by first | assumption | exact CD_fr CD_rf cσ4 (by decide +kernel)) (by omega)
  · intro q_9
    have b_12 : r2.toInt = 0 := congrArg Int32.toInt q_9
    have z_13 : (-100002 : Int32).toInt = -100002 := rfl
    exact h9ret (-100002 : Int32) σ0 m0 f0 (by first | with_reducible assumption | with_reducible rfl | omega | assumption | rfl) (by first | assumption | exact CD_rf)
/-! the orders, one after the other -/
theorem has_bit : ∀ n, n < 32 → ∀ m, m < 6 → (((nI n >>> (nI m &&& 31)) &&& (1 : Int32)) = 1 ↔ n.testBit m = true) := by decide +kernel
noncomputable def pcn (n m : Nat) : Nat := ((List.range 5).filter (fun i => decide (m ≤ i) && n.testBit i)).length
theorem pcn_t : ∀ n, n < 32 → ∀ m, m < 6 → n.testBit m = true → pcn n m = pcn n (m + 1) + 1 := by decide +kernel
theorem pcn_f : ∀ n, n < 32 → ∀ m, m < 6 → n.testBit m = false → pcn n m = pcn n (m + 1) := by decide +kernel
theorem pcn_5 : ∀ n, n < 32 → ∀ m, m < 6 → 0 < pcn n m → m < 5 := by decide +kernel
theorem lay_bits : ∀ c, c < 6 → ((1 : Int32) <<< (nI c &&& 31)) - (1 : Int32) = nI (2 ^ c - 1) ∧ 2 ^ c - 1 < 32 ∧ pcn (2 ^ c - 1) 0 = c := by decide +kernel
theorem lay_clr : ∀ n, n < 32 → ∀ m, m < 5 → n.testBit m = true → (nI n &&& (((1 : Int32) <<< (nI m &&& 31)) ^^^ (-1 : Int32))) = nI (n - 2 ^ m) ∧ n - 2 ^ m < 32 ∧ pcn (n - 2 ^ m) 0 + 1 = pcn n 0 := by decide +kernel
theorem asN {x : Int32} (h0 : 0 ≤ x.toInt) : x = nI x.toNatClampNeg := Int32.toInt_inj.mp (by rw [nI_toInt (by have := Int32.toInt_lt x; have := cl_eq h0; omega)]; exact (cl_eq h0).symm)
/-- the bits that are left: how many -/
noncomputable def LB (x : Int32) (c : Int) : Prop := ∃ n : Nat, n < 32 ∧ x = nI n ∧ (pcn n 0 : Int) = c
noncomputable def LQ (x m nth : Int32) (c : Int) : Prop := ∃ n : Nat, n < 32 ∧ x = nI n ∧ (pcn n 0 : Int) = c ∧ 0 ≤ nth.toInt ∧ nth.toInt < (pcn n m.toNatClampNeg : Int)
noncomputable def L9 (x m nth : Int32) (c : Int) : Prop := ∃ n : Nat, n < 32 ∧ x = nI n ∧ (pcn n 0 : Int) = c ∧ 0 ≤ nth.toInt ∧ nth.toInt < (pcn n m.toNatClampNeg : Int) ∧ (n.testBit m.toNatClampNeg = true → 0 < nth.toInt)
theorem LB_0 {x v : Int32} (h0 : 0 ≤ x.toInt) (h5 : x.toInt ≤ 5) (e : v = ((1 : Int32) <<< (x &&& 31)) - (1 : Int32)) : LB v x.toInt := by
  have ec := cl_eq h0
  have q := lay_bits x.toNatClampNeg (by omega)
  rw [← asN h0] at q
  exact ⟨_, q.2.1, e.trans q.1, by rw [q.2.2]; exact ec⟩
theorem LQ_0 {x m nth : Int32} {c : Int} (h : LB x c) (hm : m.toInt = 0) (h0 : 0 ≤ nth.toInt) (h1 : nth.toInt < c) : LQ x m nth c := by
  obtain ⟨n, hn, e, p⟩ := h
  refine ⟨n, hn, e, p, h0, ?_⟩
  rw [show m.toNatClampNeg = 0 from congrArg Int.toNat hm, p]; exact h1
theorem LQ_le {x m nth : Int32} {c : Int} (h : LQ x m nth c) (h0 : 0 ≤ m.toInt) (h5 : m.toInt ≤ 5) : m.toInt ≤ 4 := by
  obtain ⟨n, hn, e, p, n0, n1⟩ := h
  have ec := cl_eq h0
  have := pcn_5 n hn m.toNatClampNeg (by omega) (by omega)
  omega
/-- what 'has' says of a bit -/
noncomputable def BQ (r x m : Int32) : Prop := ∀ n j : Nat, n < 32 → j < 6 → x = nI n → m = nI j → (r.toInt = 1 ∧ n.testBit j = true) ∨ (r.toInt = 0 ∧ n.testBit j = false)
theorem BQ_0 {x m : Int32} (h : ¬ ((x >>> (m &&& 31)) &&& (1 : Int32)) = (1 : Int32)) : BQ 0 x m := fun n j hn hj e1 e2 => by
  subst e1 e2
  refine Or.inr ⟨rfl, ?_⟩
  cases hb : n.testBit j with
  | false => rfl
  | true => exact absurd ((has_bit n hn j hj).mpr hb) h
theorem BQ_1 {x m : Int32} (h : ((x >>> (m &&& 31)) &&& (1 : Int32)) = (1 : Int32)) : BQ 1 x m := fun n j hn hj e1 e2 => by
  subst e1 e2
  exact Or.inl ⟨rfl, (has_bit n hn j hj).mp h⟩
theorem L9_f {r x m nth : Int32} {c : Int} (h : LQ x m nth c) (q : BQ r x m) (h0 : 0 ≤ m.toInt) (h5 : m.toInt ≤ 5) (hr : r.toInt = 0) : L9 x m nth c := by
  obtain ⟨n, hn, e, p, n0, n1⟩ := h
  have ec := cl_eq h0
  refine ⟨n, hn, e, p, n0, n1, fun z => ?_⟩
  rcases q n m.toNatClampNeg hn (by omega) e (asN h0) with y | y
  · omega
  · rw [y.2] at z; cases z
theorem L9_t {x m nth : Int32} {c : Int} (h : LQ x m nth c) (hn0 : 0 < nth.toInt) : L9 x m nth c := by
  obtain ⟨n, hn, e, p, n0, n1⟩ := h
  exact ⟨n, hn, e, p, n0, n1, fun _ => hn0⟩
theorem LQ_sf {r x m m' nth nth' : Int32} {c : Int} (h : L9 x m nth c) (q : BQ r x m) (h0 : 0 ≤ m.toInt) (h5 : m.toInt ≤ 4) (hr : r.toInt = 0) (em : m'.toInt = m.toInt + 1) (en : nth'.toInt = nth.toInt) : LQ x m' nth' c := by
  obtain ⟨n, hn, e, p, n0, n1, n2⟩ := h
  have ec := cl_eq h0
  have ec' := cl_eq (x := m') (by omega)
  rcases q n m.toNatClampNeg hn (by omega) e (asN h0) with y | y
  · omega
  · have z := pcn_f n hn m.toNatClampNeg (by omega) y.2
    refine ⟨n, hn, e, p, by omega, ?_⟩
    rw [show m'.toNatClampNeg = m.toNatClampNeg + 1 from by omega, ← z, en]; exact n1
theorem LQ_st {r x m m' nth nth' : Int32} {c : Int} (h : L9 x m nth c) (q : BQ r x m) (h0 : 0 ≤ m.toInt) (h5 : m.toInt ≤ 4) (hr : r.toInt = 1) (em : m'.toInt = m.toInt + 1) (en : nth'.toInt = nth.toInt - 1) : LQ x m' nth' c := by
  obtain ⟨n, hn, e, p, n0, n1, n2⟩ := h
  have ec := cl_eq h0
  have ec' := cl_eq (x := m') (by omega)
  rcases q n m.toNatClampNeg hn (by omega) e (asN h0) with y | y
  · have z := pcn_t n hn m.toNatClampNeg (by omega) y.2
    have w := n2 y.2
    refine ⟨n, hn, e, p, by omega, ?_⟩
    rw [show m'.toNatClampNeg = m.toNatClampNeg + 1 from by omega]; omega
  · omega
theorem L9_le {x m nth : Int32} {c : Int} (h : L9 x m nth c) (h0 : 0 ≤ m.toInt) (h5 : m.toInt ≤ 5) : m.toInt ≤ 4 := by
  obtain ⟨n, hn, e, p, n0, n1, n2⟩ := h
  exact LQ_le ⟨n, hn, e, p, n0, n1⟩ h0 h5
theorem LB_clr {r x m nth v : Int32} {c c' : Int} (h : LQ x m nth c) (q : BQ r x m) (h0 : 0 ≤ m.toInt) (h5 : m.toInt ≤ 4) (hr : r.toInt = 1) (e : v = x &&& (((1 : Int32) <<< (m &&& 31)) ^^^ (-1 : Int32))) (hc : c' = c - 1) : LB v c' := by
  obtain ⟨n, hn, ex, p, n0, n1⟩ := h
  have ec := cl_eq h0
  rcases q n m.toNatClampNeg hn (by omega) ex (asN h0) with y | y
  · have z := lay_clr n hn m.toNatClampNeg (by omega) y.2
    rw [← asN h0, ← ex] at z
    exact ⟨_, z.2.1, e.trans z.1, by omega⟩
  · omega
/-- how many ways: k one less than told, in all -/
noncomputable def FK (k w : Int) : Prop := (k = 2 ∧ w = 1) ∨ (k = 3 ∧ w = 2) ∨ (k = 4 ∧ w = 6) ∨ (k = 5 ∧ w = 24) ∨ (k = 6 ∧ w = 120)
noncomputable def FCT (c w : Int) : Prop := (c = 0 ∧ w = 1) ∨ (c = 1 ∧ w = 1) ∨ (c = 2 ∧ w = 2) ∨ (c = 3 ∧ w = 6) ∨ (c = 4 ∧ w = 24) ∨ (c = 5 ∧ w = 120)
theorem FK_step {k w : Int} (h : FK k w) (h5 : k ≤ 5) : FK (k + 1) (w * k) ∧ 1 ≤ w * k ∧ w * k ≤ 120 := by
  rcases h with ⟨rfl, rfl⟩ | ⟨rfl, rfl⟩ | ⟨rfl, rfl⟩ | ⟨rfl, rfl⟩ | ⟨rfl, rfl⟩
  · exact ⟨Or.inr (Or.inl ⟨rfl, rfl⟩), by decide +kernel, by decide +kernel⟩
  · exact ⟨Or.inr (Or.inr (Or.inl ⟨rfl, rfl⟩)), by decide +kernel, by decide +kernel⟩
  · exact ⟨Or.inr (Or.inr (Or.inr (Or.inl ⟨rfl, rfl⟩))), by decide +kernel, by decide +kernel⟩
  · exact ⟨Or.inr (Or.inr (Or.inr (Or.inr ⟨rfl, rfl⟩))), by decide +kernel, by decide +kernel⟩
  · omega
theorem FK_F {k w c : Int} (h : FK k w) (h0 : 0 ≤ c) (h1 : c < k) (h2 : k = 2 ∨ k ≤ c + 1) : FCT c w := by
  rcases h with ⟨rfl, rfl⟩ | ⟨rfl, rfl⟩ | ⟨rfl, rfl⟩ | ⟨rfl, rfl⟩ | ⟨rfl, rfl⟩
  · rcases (show c = 0 ∨ c = 1 by omega) with rfl | rfl
    · exact Or.inl ⟨rfl, rfl⟩
    · exact Or.inr (Or.inl ⟨rfl, rfl⟩)
  · obtain rfl : c = 2 := by omega
    exact Or.inr (Or.inr (Or.inl ⟨rfl, rfl⟩))
  · obtain rfl : c = 3 := by omega
    exact Or.inr (Or.inr (Or.inr (Or.inl ⟨rfl, rfl⟩)))
  · obtain rfl : c = 4 := by omega
    exact Or.inr (Or.inr (Or.inr (Or.inr (Or.inl ⟨rfl, rfl⟩))))
  · obtain rfl : c = 5 := by omega
    exact Or.inr (Or.inr (Or.inr (Or.inr (Or.inr ⟨rfl, rfl⟩))))
theorem FCT_step {c w : Int} (h : FCT c w) (h1 : 1 ≤ c) : FCT (c - 1) (w / c) ∧ 1 ≤ w / c ∧ w / c ≤ 24 ∧ w = w / c * c := by
  rcases h with ⟨rfl, rfl⟩ | ⟨rfl, rfl⟩ | ⟨rfl, rfl⟩ | ⟨rfl, rfl⟩ | ⟨rfl, rfl⟩ | ⟨rfl, rfl⟩
  · omega
  · exact ⟨Or.inl ⟨rfl, rfl⟩, by decide +kernel, by decide +kernel, by decide +kernel⟩
  · exact ⟨Or.inr (Or.inl ⟨rfl, rfl⟩), by decide +kernel, by decide +kernel, by decide +kernel⟩
  · exact ⟨Or.inr (Or.inr (Or.inl ⟨rfl, rfl⟩)), by decide +kernel, by decide +kernel, by decide +kernel⟩
  · exact ⟨Or.inr (Or.inr (Or.inr (Or.inl ⟨rfl, rfl⟩))), by decide +kernel, by decide +kernel, by decide +kernel⟩
  · exact ⟨Or.inr (Or.inr (Or.inr (Or.inr (Or.inl ⟨rfl, rfl⟩)))), by decide +kernel, by decide +kernel, by decide +kernel⟩
theorem nth_lt {x w d c : Int} (h1 : x < w) (hw : w = d * c) (hd : 1 ≤ d) : x / d < c := Int.ediv_lt_of_lt_mul (by omega) (by rw [Int.mul_comm, ← hw]; exact h1)
theorem L9_pos {r x m nth : Int32} {c : Int} (h : L9 x m nth c) (q : BQ r x m) (h0 : 0 ≤ m.toInt) (h5 : m.toInt ≤ 5) (hr : r.toInt = 1) : 0 < nth.toInt := by
  obtain ⟨n, hn, e, p, n0, n1, n2⟩ := h
  have ec := cl_eq h0
  rcases q n m.toNatClampNeg hn (by omega) e (asN h0) with y | y
  · exact n2 y.2
  · omega
set_option maxRecDepth 100000 in
set_option maxHeartbeats 4000000 in
theorem kb_X12_has {l : Launch} {V : Vx} {a1 : Int32} {a2 : Int32} {σ0 : Sg} {Qk : Int32 → Sg → Prop} (m0 : MI σ0) (h9ret : ∀ (r : Int32) (σ' : Sg), MI σ' → Fr [] [] σ0 σ' → (0 ≤ r.toInt) → (r.toInt ≤ 1) → (BQ r a1 a2) → Qk r σ') : K_X12_has l V a1 a2 σ0 Qk := by
  refine e_X12_has (fun M hl hV hN C => ?_)
  subst hl
  subst hV
  have f0 : Fr [] [] σ0 σ0 := Fr_rf
  refine s_X12_has_0 C hN ?_
  refine ⟨?_, ?_⟩
  · intro q_1
    have w_2 := Int32.toInt_lt a1
    have w_3 := Int32.le_toInt a1
    have w_4 := Int32.toInt_lt a2
    have w_5 := Int32.le_toInt a2
    have b_6 : ¬ ((a1 >>> (a2 &&& (31 : Int32))) &&& (1 : Int32)).toInt = 1 := fun h9 => q_1 (Int32.toInt_inj.mp h9)
    have z_7 : (0 : Int32).toInt = 0 := rfl
    exact h9ret (0 : Int32) σ0 m0 f0 (by omega) (by omega) (by first | exact BQ_0 (by first | with_reducible assumption | assumption) | exact BQ_1 (by first | with_reducible assumption | assumption))
  · intro q_1
    have w_8 := Int32.toInt_lt a1
    have w_9 := Int32.le_toInt a1
    have w_10 := Int32.toInt_lt a2
    have w_11 := Int32.le_toInt a2
    have b_12 : ((a1 >>> (a2 &&& (31 : Int32))) &&& (1 : Int32)).toInt = 1 := congrArg Int32.toInt q_1
    have z_13 : (1 : Int32).toInt = 1 := rfl
    exact h9ret (1 : Int32) σ0 m0 f0 (by omega) (by omega) (by first | exact BQ_0 (by first | with_reducible assumption | assumption) | exact BQ_1 (by first | with_reducible assumption | assumption))
set_option maxRecDepth 100000 in
set_option maxHeartbeats 4000000 in
theorem k_X12_layOrder {l : Launch} {V : Vx} {a1 : Int32} {σ0 : Sg} {Qk : Int32 → Sg → Prop} (m0 : MI σ0) (l_a1 : 0 ≤ a1.toInt) (u_a1 : a1.toInt ≤ 200) (pre0 : (gi σ0 74 0).toInt ≤ 5) (h9ret : ∀ (r : Int32) (σ' : Sg), MI σ' → Fr [110] [] σ0 σ' → (0 ≤ r.toInt) → (r.toInt ≤ 1) → ((r.toInt = 1 ∧ a1.toInt ≤ 119) ∨ r.toInt = 0) → Qk r σ') : K_X12_layOrder l V a1 σ0 Qk := by
  refine e_X12_layOrder (fun M hl hV hN C => ?_)
  subst hl
  subst hV
  have T : ∀ n : Nat, (∀ (x1 : Int32) (x2 : Int32) (x3 : Int32) (σ : Sg), MI σ → Fr [110] [] σ0 σ → (0 ≤ x1.toInt) → (x1.toInt ≤ 200) → (1 ≤ x2.toInt) → (x2.toInt ≤ 120) → (2 ≤ x3.toInt) → (x3.toInt ≤ 6) → (x1.toInt = a1.toInt) → (hid (FK x3.toInt x2.toInt)) → (x3.toInt = 2 ∨ x3.toInt ≤ (gi σ 74 0).toInt + 1) → ((gi σ 74 0).toInt ≤ 5) → (8 - x3.toInt).toNat + 2000 < n → PS M 4 [(0, .ref 74), (1, .int x1), (2, .int x2), (3, .int x3)] [] σ (0, 0)) ∧ (∀ (x2 : Int32) (x3 : Int32) (x4 : Int32) (x5 : Int32) (σ : Sg), MI σ → Fr [110] [] σ0 σ → (1 ≤ x2.toInt) → (x2.toInt ≤ 120) → (0 ≤ x4.toInt) → (x4.toInt ≤ 119) → (0 ≤ x5.toInt) → (x5.toInt ≤ 5) → (hid (FCT ((gi σ 74 0).toInt - x5.toInt) x2.toInt)) → (x4.toInt < x2.toInt) → (LB x3 ((gi σ 74 0).toInt - x5.toInt)) → (x5.toInt ≤ (gi σ 74 0).toInt) → ((gi σ 74 0).toInt ≤ 5) → (a1.toInt ≤ 119) → (7 - x5.toInt).toNat * 100 + 50 < n → PS M 44 [(0, .ref 74), (2, .int x2), (3, .int x3), (4, .int x4), (5, .int x5)] [] σ (0, 0)) ∧ (∀ (x2 : Int32) (x3 : Int32) (x4 : Int32) (x5 : Int32) (x6 : Int32) (x7 : Int32) (σ : Sg), MI σ → Fr [110] [] σ0 σ → (1 ≤ x2.toInt) → (x2.toInt ≤ 24) → (0 ≤ x4.toInt) → (x4.toInt ≤ 119) → (0 ≤ x5.toInt) → (x5.toInt ≤ 4) → (0 ≤ x6.toInt) → (x6.toInt ≤ 5) → (0 ≤ x7.toInt) → (x7.toInt ≤ 5) → (hid (FCT ((gi σ 74 0).toInt - x5.toInt - 1) x2.toInt)) → (x4.toInt < x2.toInt) → (LQ x3 x7 x6 ((gi σ 74 0).toInt - x5.toInt)) → (x5.toInt < (gi σ 74 0).toInt) → ((gi σ 74 0).toInt ≤ 5) → (a1.toInt ≤ 119) → (7 - x5.toInt).toNat * 100 + (6 - x7.toInt).toNat * 3 + 1 < n → PS M 78 [(0, .ref 74), (2, .int x2), (3, .int x3), (4, .int x4), (5, .int x5), (6, .int x6), (7, .int x7)] [] σ (0, 0)) ∧ (∀ (x2 : Int32) (x3 : Int32) (x4 : Int32) (x5 : Int32) (x6 : Int32) (x7 : Int32) (σ : Sg), MI σ → Fr [110] [] σ0 σ → (1 ≤ x2.toInt) → (x2.toInt ≤ 24) → (0 ≤ x4.toInt) → (x4.toInt ≤ 119) → (0 ≤ x5.toInt) → (x5.toInt ≤ 4) → (0 ≤ x6.toInt) → (x6.toInt ≤ 5) → (0 ≤ x7.toInt) → (x7.toInt ≤ 5) → (hid (FCT ((gi σ 74 0).toInt - x5.toInt - 1) x2.toInt)) → (x4.toInt < x2.toInt) → (L9 x3 x7 x6 ((gi σ 74 0).toInt - x5.toInt)) → (x5.toInt < (gi σ 74 0).toInt) → ((gi σ 74 0).toInt ≤ 5) → (a1.toInt ≤ 119) → (7 - x5.toInt).toNat * 100 + (6 - x7.toInt).toNat * 3 < n → PS M 93 [(0, .ref 74), (2, .int x2), (3, .int x3), (4, .int x4), (5, .int x5), (6, .int x6), (7, .int x7)] [] σ (0, 0)) := by
    intro n
    induction n with
    | zero => exact ⟨fun _ _ _ _ _ _ _ _ _ _ _ _ _ _ _ _ h8 => absurd h8 (Nat.not_lt_zero _), fun _ _ _ _ _ _ _ _ _ _ _ _ _ _ _ _ _ _ _ h8 => absurd h8 (Nat.not_lt_zero _), fun _ _ _ _ _ _ _ _ _ _ _ _ _ _ _ _ _ _ _ _ _ _ _ _ _ h8 => absurd h8 (Nat.not_lt_zero _), fun _ _ _ _ _ _ _ _ _ _ _ _ _ _ _ _ _ _ _ _ _ _ _ _ _ h8 => absurd h8 (Nat.not_lt_zero _)⟩
    | succ n ih =>
      obtain ⟨ih4, ih44, ih78, ih93⟩ := ih
      refine ⟨?_, ?_, ?_, ?_⟩
      · intro x1 x2 x3 σ mσ fσ lx1 ux1 lx2 ux2 lx3 ux3 i0 i1 i2 i3 hmu
        have mw := MI_f0 mσ
        refine s_X12_layOrder_4 C hN ?_
        refine ⟨?_, ?_⟩
        · intro q_1
          have t_2 := MI_f0 mσ
          have b_3 : (gi σ 74 0).toInt < x3.toInt := Int32.lt_iff_toInt_lt.mp q_1
          refine ⟨?_, ?_⟩
          · intro q_4
            have b_5 : x1.toInt < x2.toInt := Int32.lt_iff_toInt_lt.mp q_4
            intro v3 ev3
            have z_6 : (0 : Int32).toInt = 0 := rfl
            exact ih44 x2 v3 x1 (0 : Int32) σ mσ fσ (by omega) (by omega) (by omega) (by omega) (by omega) (by omega) (by first | (rw [show ((0 : Int32).toInt : Int) = 0 from rfl, Int.sub_zero]; exact FK_F (un i1) (by omega) (by omega) (by omega)) | (rw [show (gi σ6 74 0).toInt - v8.toInt = (gi σ 74 0).toInt - x5.toInt - 1 from by omega]; exact i0)) (by first | with_reducible assumption | with_reducible rfl | omega | assumption | rfl) (by first | (rw [show ((0 : Int32).toInt : Int) = 0 from rfl, Int.sub_zero]; exact LB_0 (by omega) (by omega) ev3) | exact LB_clr i2 pσ1_0 (by omega) (by omega) (by omega) ev7 (by omega)) (by first | with_reducible assumption | with_reducible rfl | omega | assumption | rfl) (by first | with_reducible assumption | with_reducible rfl | omega | assumption | rfl) (by first | with_reducible assumption | with_reducible rfl | omega | assumption | rfl) (by omega)
          · intro q_4
            have b_7 : ¬ x1.toInt < x2.toInt := fun h9 => q_4 (Int32.lt_iff_toInt_lt.mpr h9)
            have z_8 : (0 : Int32).toInt = 0 := rfl
            exact h9ret (0 : Int32) σ mσ fσ (by omega) (by omega) (by first | with_reducible assumption | with_reducible rfl | omega | assumption | rfl)
        · intro q_1
          have t_9 := MI_f0 mσ
          have b_10 : ¬ (gi σ 74 0).toInt < x3.toInt := fun h9 => q_1 (Int32.lt_iff_toInt_lt.mpr h9)
          intro v4 ev4
          obtain ⟨fk1, fk2, fk3⟩ := FK_step (un i1) (by omega)
          have uv4 : v4.toInt = x2.toInt * x3.toInt := by rw [ev4]; exact i_mul0 rfl (by omega) (by omega)
          intro v5 ev5
          have t_11 : (x3 + (1 : Int32)).toInt = x3.toInt + 1 := i_add (x := x3) (y := (1 : Int32)) (by show (_ : Int) ≤ x3.toInt + 1; omega) (by show x3.toInt + 1 ≤ (_ : Int); omega)
          have t_12 : v5.toInt = (x3 + (1 : Int32)).toInt := congrArg Int32.toInt ev5
          exact ih4 x1 v4 v5 σ mσ fσ (by omega) (by omega) (by omega) (by omega) (by omega) (by omega) (by first | with_reducible assumption | with_reducible rfl | omega | assumption | rfl) (by first | exact Or.inl ⟨rfl, rfl⟩ | (rw [show v5.toInt = x3.toInt + 1 from by omega, uv4]; exact fk1)) (by first | with_reducible assumption | with_reducible rfl | omega | assumption | rfl) (by first | with_reducible assumption | with_reducible rfl | omega | assumption | rfl) (by omega)
      · intro x2 x3 x4 x5 σ mσ fσ lx2 ux2 lx4 ux4 lx5 ux5 i0 i1 i2 i3 i4 i5 hmu
        have mw := MI_f0 mσ
        refine s_X12_layOrder_44 C hN ?_
        refine ⟨?_, ?_⟩
        · intro q_13
          have t_14 := MI_f0 mσ
          have b_15 : (gi σ 74 0).toInt ≤ x5.toInt := Int32.le_iff_toInt_le.mp q_13
          have z_16 : (1 : Int32).toInt = 1 := rfl
          exact h9ret (1 : Int32) σ mσ fσ (by omega) (by omega) (by first | with_reducible assumption | with_reducible rfl | omega | assumption | rfl)
        · intro q_13
          have t_17 := MI_f0 mσ
          have b_18 : ¬ (gi σ 74 0).toInt ≤ x5.toInt := fun h9 => q_13 (Int32.le_iff_toInt_le.mpr h9)
          have t_19 : ((gi σ 74 0) - x5).toInt = (gi σ 74 0).toInt - x5.toInt := i_sub (x := (gi σ 74 0)) (y := x5) (by show (_ : Int) ≤ (gi σ 74 0).toInt - x5.toInt; omega) (by show (gi σ 74 0).toInt - x5.toInt ≤ (_ : Int); omega)
          refine ⟨fun h9 => ?_, ?_⟩
          · have h9 : ((gi σ 74 0) - x5).toInt = 0 := congrArg Int32.toInt h9
            omega
          intro v3 ev3
          have u3 : v3.toInt = x2.toInt / ((gi σ 74 0).toInt - x5.toInt) := by rw [ev3]; exact i_div (by omega) (by omega) (by omega)
          obtain ⟨f1, f2, f3, f4⟩ := FCT_step (un i0) (by omega)
          rw [← u3] at f1 f2 f3 f4
          have f1 : hid _ := f1
          have f4 : hid _ := f4
          clear u3
          refine ⟨fun h9 => ?_, ?_⟩
          · have h9 : v3.toInt = 0 := congrArg Int32.toInt h9
            omega
          intro v5 ev5
          have u5 : v5.toInt = x4.toInt / v3.toInt := by rw [ev5]; exact i_div (by omega) (by omega) rfl
          have n5 : v5.toInt < ((gi σ 74 0).toInt - x5.toInt) := by rw [u5]; exact nth_lt i1 (un f4) (by omega)
          have p5 : 0 ≤ v5.toInt := by rw [u5]; exact Int.ediv_nonneg (by omega) (by omega)
          clear u5
          refine ⟨fun h9 => ?_, ?_⟩
          · have h9 : v3.toInt = 0 := congrArg Int32.toInt h9
            omega
          intro v7 ev7
          have u7 : v7.toInt = x4.toInt % v3.toInt := by rw [ev7]; exact i_rem (by omega) (by omega) rfl
          have p7 := Int.emod_nonneg x4.toInt (show v3.toInt ≠ 0 by omega)
          have n7 := Int.emod_lt_of_pos x4.toInt (show 0 < v3.toInt by omega)
          rw [← u7] at p7 n7
          clear u7
          have z_20 : (0 : Int32).toInt = 0 := rfl
          exact ih78 v3 x3 v7 x5 v5 (0 : Int32) σ mσ fσ (by omega) (by omega) (by omega) (by omega) (by omega) (by omega) (by omega) (by omega) (by omega) (by omega) (by first | with_reducible assumption | with_reducible rfl | omega | assumption | rfl) (by first | with_reducible assumption | with_reducible rfl | omega | assumption | rfl) (by first | exact LQ_0 i2 rfl (by omega) (by omega) | exact LQ_sf i2 pσ1_0 (by omega) (by omega) (by omega) (by omega) (by omega) | exact LQ_st i2 pσ1_0 (by omega) (by omega) (by omega) (by omega) (by omega)) (by first | with_reducible assumption | with_reducible rfl | omega | assumption | rfl) (by first | with_reducible assumption | with_reducible rfl | omega | assumption | rfl) (by first | with_reducible assumption | with_reducible rfl | omega | assumption | rfl) (by omega)
      · intro x2 x3 x4 x5 x6 x7 σ mσ fσ lx2 ux2 lx4 ux4 lx5 ux5 lx6 ux6 lx7 ux7 i0 i1 i2 i3 i4 i5 hmu
        have mw := MI_f0 mσ
        have le7 := LQ_le i2 (by omega) (by omega)
        refine s_X12_layOrder_78 C hN ?_
        refine kb_X12_has mσ  (fun r2 σ1 mσ1 cσ1 plσ1 phσ1 (pσ1_0 : BQ r2 x3 x7) => ?_)
        obtain rfl := Fr_nil cσ1
        refine ⟨?_, ?_⟩
        · intro q_21
          have b_22 : r2.toInt = 0 := congrArg Int32.toInt q_21
          exact ih93 x2 x3 x4 x5 x6 x7 σ mσ fσ (by omega) (by omega) (by omega) (by omega) (by omega) (by omega) (by omega) (by omega) (by omega) (by omega) (by first | with_reducible assumption | with_reducible rfl | omega | assumption | rfl) (by first | with_reducible assumption | with_reducible rfl | omega | assumption | rfl) (by first | exact L9_f i2 pσ1_0 (by omega) (by omega) (by omega) | exact L9_t i2 (by omega)) (by first | with_reducible assumption | with_reducible rfl | omega | assumption | rfl) (by first | with_reducible assumption | with_reducible rfl | omega | assumption | rfl) (by first | with_reducible assumption | with_reducible rfl | omega | assumption | rfl) (by omega)
        · intro q_21
          have b_23 : ¬ r2.toInt = 0 := fun h9 => q_21 (Int32.toInt_inj.mp h9)
          refine ⟨?_, ?_⟩
          · intro q_24
            have b_25 : x6.toInt ≤ 0 := Int32.le_iff_toInt_le.mp q_24
            have hv_26 : vp_in x5 6 := vp_in_iff.mpr ⟨by omega, by omega⟩
            refine ⟨hv_26, ?_⟩
            intro σ6 eσ6
            have mσ6 : MI σ6 := by rw [eσ6]; exact MIs_a110 mσ (by omega) (by omega)
            have fσ6 : Fr [110] [] σ0 σ6 := by rw [eσ6]; exact Fr_si fσ (by decide +kernel) (fun h9 => absurd h9 (by decide +kernel))
            have k_27 : (gi σ6 74 0).toInt = (gi σ 74 0).toInt := gk_l eσ6 rfl
            intro v7 ev7
            intro v8 ev8
            have t_28 : (x5 + (1 : Int32)).toInt = x5.toInt + 1 := i_add (x := x5) (y := (1 : Int32)) (by show (_ : Int) ≤ x5.toInt + 1; omega) (by show x5.toInt + 1 ≤ (_ : Int); omega)
            have t_29 : v8.toInt = (x5 + (1 : Int32)).toInt := congrArg Int32.toInt ev8
            exact ih44 x2 v7 x4 v8 σ6 mσ6 fσ6 (by omega) (by omega) (by omega) (by omega) (by omega) (by omega) (by first | (rw [show ((0 : Int32).toInt : Int) = 0 from rfl, Int.sub_zero]; exact FK_F (un i1) (by omega) (by omega) (by omega)) | (rw [show (gi σ6 74 0).toInt - v8.toInt = (gi σ 74 0).toInt - x5.toInt - 1 from by omega]; exact i0)) (by first | with_reducible assumption | with_reducible rfl | omega | assumption | rfl) (by first | (rw [show ((0 : Int32).toInt : Int) = 0 from rfl, Int.sub_zero]; exact LB_0 (by omega) (by omega) ev3) | exact LB_clr i2 pσ1_0 (by omega) (by omega) (by omega) ev7 (by omega)) (by first | with_reducible assumption | with_reducible rfl | omega | assumption | rfl) (by first | with_reducible assumption | with_reducible rfl | omega | assumption | rfl) (by first | with_reducible assumption | with_reducible rfl | omega | assumption | rfl) (by omega)
          · intro q_24
            have b_30 : ¬ x6.toInt ≤ 0 := fun h9 => q_24 (Int32.le_iff_toInt_le.mpr h9)
            exact ih93 x2 x3 x4 x5 x6 x7 σ mσ fσ (by omega) (by omega) (by omega) (by omega) (by omega) (by omega) (by omega) (by omega) (by omega) (by omega) (by first | with_reducible assumption | with_reducible rfl | omega | assumption | rfl) (by first | with_reducible assumption | with_reducible rfl | omega | assumption | rfl) (by first | exact L9_f i2 pσ1_0 (by omega) (by omega) (by omega) | exact L9_t i2 (by omega)) (by first | with_reducible assumption | with_reducible rfl | omega | assumption | rfl) (by first | with_reducible assumption | with_reducible rfl | omega | assumption | rfl) (by first | with_reducible assumption | with_reducible rfl | omega | assumption | rfl) (by omega)
      · intro x2 x3 x4 x5 x6 x7 σ mσ fσ lx2 ux2 lx4 ux4 lx5 ux5 lx6 ux6 lx7 ux7 i0 i1 i2 i3 i4 i5 hmu
        have mw := MI_f0 mσ
        have le7 := L9_le i2 (by omega) (by omega)
        refine s_X12_layOrder_93 C hN ?_
        refine kb_X12_has mσ  (fun r2 σ1 mσ1 cσ1 plσ1 phσ1 (pσ1_0 : BQ r2 x3 x7) => ?_)
        obtain rfl := Fr_nil cσ1
        refine ⟨?_, ?_⟩
        · intro q_31
          have b_32 : r2.toInt = 0 := congrArg Int32.toInt q_31
          intro v4 ev4
          have t_33 : (x6 - (0 : Int32)).toInt = x6.toInt - 0 := i_sub (x := x6) (y := (0 : Int32)) (by show (_ : Int) ≤ x6.toInt - 0; omega) (by show x6.toInt - 0 ≤ (_ : Int); omega)
          have t_34 : v4.toInt = (x6 - (0 : Int32)).toInt := congrArg Int32.toInt ev4
          intro v5 ev5
          have t_35 : (x7 + (1 : Int32)).toInt = x7.toInt + 1 := i_add (x := x7) (y := (1 : Int32)) (by show (_ : Int) ≤ x7.toInt + 1; omega) (by show x7.toInt + 1 ≤ (_ : Int); omega)
          have t_36 : v5.toInt = (x7 + (1 : Int32)).toInt := congrArg Int32.toInt ev5
          exact ih78 x2 x3 x4 x5 v4 v5 σ mσ fσ (by omega) (by omega) (by omega) (by omega) (by omega) (by omega) (by omega) (by omega) (by omega) (by omega) (by first | with_reducible assumption | with_reducible rfl | omega | assumption | rfl) (by first | with_reducible assumption | with_reducible rfl | omega | assumption | rfl) (by first | exact LQ_0 i2 rfl (by omega) (by omega) | exact LQ_sf i2 pσ1_0 (by omega) (by omega) (by omega) (by omega) (by omega) | exact LQ_st i2 pσ1_0 (by omega) (by omega) (by omega) (by omega) (by omega)) (by first | with_reducible assumption | with_reducible rfl | omega | assumption | rfl) (by first | with_reducible assumption | with_reducible rfl | omega | assumption | rfl) (by first | with_reducible assumption | with_reducible rfl | omega | assumption | rfl) (by omega)
        · intro q_31
          have b_37 : ¬ r2.toInt = 0 := fun h9 => q_31 (Int32.toInt_inj.mp h9)
          have w9 := L9_pos i2 pσ1_0 (by omega) (by omega) (by omega)
          intro v6 ev6
          have t_38 : (x6 - (1 : Int32)).toInt = x6.toInt - 1 := i_sub (x := x6) (y := (1 : Int32)) (by show (_ : Int) ≤ x6.toInt - 1; omega) (by show x6.toInt - 1 ≤ (_ : Int); omega)
          have t_39 : v6.toInt = (x6 - (1 : Int32)).toInt := congrArg Int32.toInt ev6
          intro v7 ev7
          have t_40 : (x7 + (1 : Int32)).toInt = x7.toInt + 1 := i_add (x := x7) (y := (1 : Int32)) (by show (_ : Int) ≤ x7.toInt + 1; omega) (by show x7.toInt + 1 ≤ (_ : Int); omega)
          have t_41 : v7.toInt = (x7 + (1 : Int32)).toInt := congrArg Int32.toInt ev7
          exact ih78 x2 x3 x4 x5 v6 v7 σ mσ fσ (by omega) (by omega) (by omega) (by omega) (by omega) (by omega) (by omega) (by omega) (by omega) (by omega) (by first | with_reducible assumption | with_reducible rfl | omega | assumption | rfl) (by first | with_reducible assumption | with_reducible rfl | omega | assumption | rfl) (by first | exact LQ_0 i2 rfl (by omega) (by omega) | exact LQ_sf i2 pσ1_0 (by omega) (by omega) (by omega) (by omega) (by omega) | exact LQ_st i2 pσ1_0 (by omega) (by omega) (by omega) (by omega) (by omega)) (by first | with_reducible assumption | with_reducible rfl | omega | assumption | rfl) (by first | with_reducible assumption | with_reducible rfl | omega | assumption | rfl) (by first | with_reducible assumption | with_reducible rfl | omega | assumption | rfl) (by omega)
  obtain ⟨U4, U44, U78, U93⟩ := T 3000
  have f0 : Fr [110] [] σ0 σ0 := Fr_rf
  have mw := MI_f0 m0
  refine s_X12_layOrder_0 C hN ?_
  have z_42 : (1 : Int32).toInt = 1 := rfl
  have z_43 : (2 : Int32).toInt = 2 := rfl
  exact U4 a1 (1 : Int32) (2 : Int32) σ0 m0 f0 (by omega) (by omega) (by omega) (by omega) (by omega) (by omega) (by first | with_reducible assumption | with_reducible rfl | omega | assumption | rfl) (by first | exact Or.inl ⟨rfl, rfl⟩ | (rw [show v5.toInt = x3.toInt + 1 from by omega, uv4]; exact fk1)) (by first | with_reducible assumption | with_reducible rfl | omega | assumption | rfl) (by first | with_reducible assumption | with_reducible rfl | omega | assumption | rfl) (by omega)
set_option maxRecDepth 100000 in
set_option maxHeartbeats 4000000 in
theorem k_X12_order {l : Launch} {V : Vx} {a1 : Int32} {a2 : Int32} {σ0 : Sg} {Qk : Int32 → Sg → Prop} (m0 : MI σ0) (pre0 : (gi σ0 74 1).toInt ≤ 9999) (h9ret : ∀ (r : Int32) (σ' : Sg), MI σ' → Fr [74, 105, 106, 107, 108, 110, 129, 131, 132, 134, 135, 136, 137, 138, 139] [1, 30, 33] σ0 σ' → ((gi σ' 74 1).toInt = (gi σ0 74 1).toInt) → (CD σ0 σ' 110 110 6) → Qk r σ') : K_X12_order l V a1 a2 σ0 Qk := by
  refine e_X12_order (fun M hl hV hN C => ?_)
  subst hl
  subst hV
  have T : ∀ n : Nat, (∀ (x1 : Int32) (x2 : Int32) (x3 : Int32) (σ : Sg), MI σ → Fr [74, 105, 106, 107, 108, 110, 129, 131, 132, 134, 135, 136, 137, 138, 139] [1, 30, 33] σ0 σ → (1 ≤ x1.toInt) → (x1.toInt ≤ 12) → (-1 ≤ x2.toInt) → (x2.toInt ≤ 4) → (0 ≤ x3.toInt) → (x3.toInt ≤ 6) → ((gi σ 74 1).toInt = (gi σ0 74 1).toInt) → (CD σ0 σ 110 110 6) → (CD σ0 σ 138 110 x3.toInt) → ((gi σ 74 0).toInt ≤ 5) → (7 - x3.toInt).toNat + 5000 < n → PS M 39 [(0, .ref 74), (1, .int x1), (2, .int x2), (3, .int x3)] [] σ (0, 0)) ∧ (∀ (x1 : Int32) (x2 : Int32) (x3 : Int32) (x4 : Int32) (σ : Sg), MI σ → Fr [74, 105, 106, 107, 108, 110, 129, 131, 132, 134, 135, 136, 137, 138, 139] [1, 30, 33] σ0 σ → (1 ≤ x1.toInt) → (x1.toInt ≤ 12) → (-1 ≤ x2.toInt) → (x2.toInt ≤ 4) → (0 ≤ x4.toInt) → (x4.toInt ≤ 120) → ((gi σ 74 1).toInt = (gi σ0 74 1).toInt) → (CD σ0 σ 138 110 6) → ((gi σ 74 0).toInt ≤ 5) → (130 - x4.toInt).toNat * 20 + 15 < n → PS M 68 [(0, .ref 74), (1, .int x1), (2, .int x2), (3, .int x3), (4, .int x4)] [] σ (0, 0)) ∧ (∀ (x2 : Int32) (x3 : Int32) (x4 : Int32) (σ : Sg), MI σ → Fr [74, 105, 106, 107, 108, 110, 129, 131, 132, 134, 135, 136, 137, 138, 139] [1, 30, 33] σ0 σ → (-1 ≤ x2.toInt) → (x2.toInt ≤ 4) → (0 ≤ x4.toInt) → (x4.toInt ≤ 6) → ((gi σ 74 1).toInt = (gi σ0 74 1).toInt) → (CD σ0 σ 138 110 6) → (CD σ0 σ 110 110 x4.toInt) → (7 - x4.toInt).toNat < n → PS M 135 [(0, .ref 74), (2, .int x2), (3, .int x3), (4, .int x4)] [] σ (0, 0)) ∧ (∀ (x1 : Int32) (x2 : Int32) (x3 : Int32) (x4 : Int32) (x6 : Int32) (σ : Sg), MI σ → Fr [74, 105, 106, 107, 108, 110, 129, 131, 132, 134, 135, 136, 137, 138, 139] [1, 30, 33] σ0 σ → (1 ≤ x1.toInt) → (x1.toInt ≤ 12) → (-1 ≤ x2.toInt) → (x2.toInt ≤ 4) → (0 ≤ x4.toInt) → (x4.toInt ≤ 119) → (0 ≤ x6.toInt) → (x6.toInt ≤ 6) → ((gi σ 74 1).toInt = (gi σ0 74 1).toInt) → (CD σ0 σ 138 110 6) → ((gi σ 74 0).toInt ≤ 5) → (130 - x4.toInt).toNat * 20 + (7 - x6.toInt).toNat < n → PS M 99 [(0, .ref 74), (1, .int x1), (2, .int x2), (3, .int x3), (4, .int x4), (6, .int x6)] [] σ (0, 0)) := by
    intro n
    induction n with
    | zero => exact ⟨fun _ _ _ _ _ _ _ _ _ _ _ _ _ _ _ _ h8 => absurd h8 (Nat.not_lt_zero _), fun _ _ _ _ _ _ _ _ _ _ _ _ _ _ _ _ h8 => absurd h8 (Nat.not_lt_zero _), fun _ _ _ _ _ _ _ _ _ _ _ _ _ h8 => absurd h8 (Nat.not_lt_zero _), fun _ _ _ _ _ _ _ _ _ _ _ _ _ _ _ _ _ _ _ h8 => absurd h8 (Nat.not_lt_zero _)⟩
    | succ n ih =>
      obtain ⟨ih39, ih68, ih135, ih99⟩ := ih
      refine ⟨?_, ?_, ?_, ?_⟩
      · intro x1 x2 x3 σ mσ fσ lx1 ux1 lx2 ux2 lx3 ux3 i0 i1 i2 i3 hmu
        refine s_X12_order_39 C hN ?_
        refine ⟨?_, ?_⟩
        · intro q_1
          have b_2 : (6 : Int) ≤ x3.toInt := Int32.le_iff_toInt_le.mp q_1
          have z_3 : (-1 : Int32).toInt = -1 := rfl
          have z_4 : (0 : Int32).toInt = 0 := rfl
          exact ih68 x1 x2 (-1 : Int32) (0 : Int32) σ mσ fσ (by omega) (by omega) (by omega) (by omega) (by omega) (by omega) (by first | with_reducible assumption | with_reducible rfl | omega | assumption | rfl) (by first | assumption | exact CD_le i2 (by omega)) (by first | with_reducible assumption | with_reducible rfl | omega | assumption | rfl) (by omega)
        · intro q_1
          have b_5 : ¬ (6 : Int) ≤ x3.toInt := fun h9 => q_1 (Int32.le_iff_toInt_le.mpr h9)
          have hv_6 : vp_in x3 6 := vp_in_iff.mpr ⟨by omega, by omega⟩
          refine ⟨hv_6, ?_⟩
          refine ⟨hv_6, ?_⟩
          intro σ4 eσ4
          have t_7 := MI_a110 mσ hv_6
          have mσ4 : MI σ4 := by rw [eσ4]; exact MIs_a138 mσ (by omega) (by omega)
          have fσ4 : Fr [74, 105, 106, 107, 108, 110, 129, 131, 132, 134, 135, 136, 137, 138, 139] [1, 30, 33] σ0 σ4 := by rw [eσ4]; exact Fr_si fσ (by decide +kernel) (fun h9 => absurd h9 (by decide +kernel))
          have k_8 : (gi σ4 74 0).toInt = (gi σ 74 0).toInt := gk_l eσ4 rfl
          have k_9 : (gi σ4 74 1).toInt = (gi σ 74 1).toInt := gk_l eσ4 rfl
          intro v5 ev5
          have t_10 : (x3 + (1 : Int32)).toInt = x3.toInt + 1 := i_add (x := x3) (y := (1 : Int32)) (by show (_ : Int) ≤ x3.toInt + 1; omega) (by show x3.toInt + 1 ≤ (_ : Int); omega)
          have t_11 : v5.toInt = (x3 + (1 : Int32)).toInt := congrArg Int32.toInt ev5
          exact ih39 x1 x2 v5 σ4 mσ4 fσ4 (by omega) (by omega) (by omega) (by omega) (by omega) (by omega) (by first | with_reducible assumption | with_reducible rfl | omega | assumption | rfl) (by first | exact CD_rf | (rw [eσ4]; exact CD_st i1 (by decide +kernel))) (by first | exact CD_0 (Int.le_refl 0) | (rw [show v5.toInt = x3.toInt + 1 from by omega, eσ4]; exact CD_step i2 i1 (by omega) (by omega))) (by first | with_reducible assumption | with_reducible rfl | omega | assumption | rfl) (by omega)
      · intro x1 x2 x3 x4 σ mσ fσ lx1 ux1 lx2 ux2 lx4 ux4 i0 i1 i2 hmu
        refine s_X12_order_68 C hN ?_
        refine k_X12_layOrder mσ (by omega) (by omega) (by first | with_reducible assumption | with_reducible rfl | omega | assumption | rfl) (fun r2 σ1 mσ1 cσ1 plσ1 phσ1 (pσ1_0 : (r2.toInt = 1 ∧ x4.toInt ≤ 119) ∨ r2.toInt = 0) => ?_)
        have fσ1 : Fr [74, 105, 106, 107, 108, 110, 129, 131, 132, 134, 135, 136, 137, 138, 139] [1, 30, 33] σ0 σ1 := Fr_tr fσ cσ1 (by decide +kernel) (by decide +kernel)
        have k_12 : (gi σ1 74 0).toInt = (gi σ 74 0).toInt := congrArg Int32.toInt (cσ1.2.1 0 (by decide +kernel))
        have k_13 : (gi σ1 74 1).toInt = (gi σ 74 1).toInt := congrArg Int32.toInt (cσ1.2.1 1 (by decide +kernel))
        try have hC9 : CD σ0 σ1 138 110 (6) := CD_fr (by first | with_reducible assumption | assumption) cσ1 (by decide +kernel)
        refine ⟨?_, ?_⟩
        · intro q_14
          have b_15 : r2.toInt = 0 := congrArg Int32.toInt q_14
          have z_16 : (0 : Int32).toInt = 0 := rfl
          exact ih135 x2 x3 (0 : Int32) σ1 mσ1 fσ1 (by omega) (by omega) (by omega) (by omega) (by first | with_reducible assumption | with_reducible rfl | omega | assumption | rfl) (by first | assumption | (rw [eσ7]; exact CD_st i1 (by decide +kernel))) (by first | exact CD_0 (Int.le_refl 0) | (rw [show v8.toInt = x4.toInt + 1 from by omega, eσ7]; exact CD_step i2 i1 (by omega) (by omega))) (by omega)
        · intro q_14
          have b_17 : ¬ r2.toInt = 0 := fun h9 => q_14 (Int32.toInt_inj.mp h9)
          refine k_X12_fromTheStart mσ1 (by omega) (by omega) (by first | with_reducible assumption | with_reducible rfl | omega | assumption | rfl) (fun r5 σ4 mσ4 cσ4 (pσ4_0 : (gi σ4 74 1).toInt = (gi σ1 74 1).toInt) => ?_)
          have fσ4 : Fr [74, 105, 106, 107, 108, 110, 129, 131, 132, 134, 135, 136, 137, 138, 139] [1, 30, 33] σ0 σ4 := Fr_tr fσ1 cσ4 (by decide +kernel) (by decide +kernel)
          have k_18 : (gi σ4 74 0).toInt = (gi σ1 74 0).toInt := congrArg Int32.toInt (cσ4.2.1 0 (by decide +kernel))
          try have hC9 : CD σ0 σ4 138 110 (6) := CD_fr (by first | with_reducible assumption | assumption) cσ4 (by decide +kernel)
          refine ⟨?_, ?_⟩
          · intro q_19
            have w_20 := Int32.toInt_lt x3
            have w_21 := Int32.le_toInt x3
            have w_22 := Int32.toInt_lt r5
            have w_23 := Int32.le_toInt r5
            have b_24 : x3.toInt < r5.toInt := Int32.lt_iff_toInt_lt.mp q_19
            have z_25 : (0 : Int32).toInt = 0 := rfl
            exact ih99 x1 x2 r5 x4 (0 : Int32) σ4 mσ4 fσ4 (by omega) (by omega) (by omega) (by omega) (by omega) (by omega) (by omega) (by omega) (by first | with_reducible assumption | with_reducible rfl | omega | assumption | rfl) (by first | assumption | (rw [eσ5]; exact CD_st i1 (by decide +kernel))) (by first | with_reducible assumption | with_reducible rfl | omega | assumption | rfl) (by omega)
          · intro q_19
            have w_26 := Int32.toInt_lt x3
            have w_27 := Int32.le_toInt x3
            have w_28 := Int32.toInt_lt r5
            have w_29 := Int32.le_toInt r5
            have b_30 : ¬ x3.toInt < r5.toInt := fun h9 => q_19 (Int32.lt_iff_toInt_lt.mpr h9)
            intro v7 ev7
            have t_31 : (x4 + (1 : Int32)).toInt = x4.toInt + 1 := i_add (x := x4) (y := (1 : Int32)) (by show (_ : Int) ≤ x4.toInt + 1; omega) (by show x4.toInt + 1 ≤ (_ : Int); omega)
            have t_32 : v7.toInt = (x4 + (1 : Int32)).toInt := congrArg Int32.toInt ev7
            exact ih68 x1 x2 x3 v7 σ4 mσ4 fσ4 (by omega) (by omega) (by omega) (by omega) (by omega) (by omega) (by first | with_reducible assumption | with_reducible rfl | omega | assumption | rfl) (by first | assumption | exact CD_le i2 (by omega)) (by first | with_reducible assumption | with_reducible rfl | omega | assumption | rfl) (by omega)
      · intro x2 x3 x4 σ mσ fσ lx2 ux2 lx4 ux4 i0 i1 i2 hmu
        refine s_X12_order_135 C hN ?_
        refine ⟨?_, ?_⟩
        · intro q_33
          have b_34 : (6 : Int) ≤ x4.toInt := Int32.le_iff_toInt_le.mp q_33
          refine ⟨?_, ?_⟩
          · intro q_35
            have b_36 : (0 : Int) ≤ x2.toInt := Int32.le_iff_toInt_le.mp q_35
            refine ⟨?_, ?_⟩
            · intro q_37
              have t_38 := MI_f0 mσ
              have b_39 : (gi σ 74 0).toInt ≤ x2.toInt := Int32.le_iff_toInt_le.mp q_37
              have z_40 : (-5 : Int32).toInt = -5 := rfl
              exact h9ret (-5 : Int32) σ mσ fσ (by first | with_reducible assumption | with_reducible rfl | omega | assumption | rfl) (by first | exact CD_rf | exact CD_le i2 (by omega))
            · intro q_37
              have t_41 := MI_f0 mσ
              have b_42 : ¬ (gi σ 74 0).toInt ≤ x2.toInt := fun h9 => q_37 (Int32.le_iff_toInt_le.mpr h9)
              have hv_43 : vp_in x2 6 := vp_in_iff.mpr ⟨by omega, by omega⟩
              refine ⟨hv_43, ?_⟩
              have t_44 := MI_a139 mσ hv_43
              exact h9ret (gi σ 139 x2.toNatClampNeg) σ mσ fσ (by first | with_reducible assumption | with_reducible rfl | omega | assumption | rfl) (by first | exact CD_rf | exact CD_le i2 (by omega))
          · intro q_35
            have b_45 : ¬ (0 : Int) ≤ x2.toInt := fun h9 => q_35 (Int32.le_iff_toInt_le.mpr h9)
            exact h9ret x3 σ mσ fσ (by first | with_reducible assumption | with_reducible rfl | omega | assumption | rfl) (by first | exact CD_rf | exact CD_le i2 (by omega))
        · intro q_33
          have b_46 : ¬ (6 : Int) ≤ x4.toInt := fun h9 => q_33 (Int32.le_iff_toInt_le.mpr h9)
          have hv_47 : vp_in x4 6 := vp_in_iff.mpr ⟨by omega, by omega⟩
          refine ⟨hv_47, ?_⟩
          refine ⟨hv_47, ?_⟩
          intro σ7 eσ7
          have t_48 := MI_a138 mσ hv_47
          have mσ7 : MI σ7 := by rw [eσ7]; exact MIs_a110 mσ (by omega) (by omega)
          have fσ7 : Fr [74, 105, 106, 107, 108, 110, 129, 131, 132, 134, 135, 136, 137, 138, 139] [1, 30, 33] σ0 σ7 := by rw [eσ7]; exact Fr_si fσ (by decide +kernel) (fun h9 => absurd h9 (by decide +kernel))
          have k_49 : (gi σ7 74 0).toInt = (gi σ 74 0).toInt := gk_l eσ7 rfl
          have k_50 : (gi σ7 74 1).toInt = (gi σ 74 1).toInt := gk_l eσ7 rfl
          intro v8 ev8
          have t_51 : (x4 + (1 : Int32)).toInt = x4.toInt + 1 := i_add (x := x4) (y := (1 : Int32)) (by show (_ : Int) ≤ x4.toInt + 1; omega) (by show x4.toInt + 1 ≤ (_ : Int); omega)
          have t_52 : v8.toInt = (x4 + (1 : Int32)).toInt := congrArg Int32.toInt ev8
          exact ih135 x2 x3 v8 σ7 mσ7 fσ7 (by omega) (by omega) (by omega) (by omega) (by first | with_reducible assumption | with_reducible rfl | omega | assumption | rfl) (by first | assumption | (rw [eσ7]; exact CD_st i1 (by decide +kernel))) (by first | exact CD_0 (Int.le_refl 0) | (rw [show v8.toInt = x4.toInt + 1 from by omega, eσ7]; exact CD_step i2 i1 (by omega) (by omega))) (by omega)
      · intro x1 x2 x3 x4 x6 σ mσ fσ lx1 ux1 lx2 ux2 lx4 ux4 lx6 ux6 i0 i1 i2 hmu
        refine s_X12_order_99 C hN ?_
        refine ⟨?_, ?_⟩
        · intro q_53
          have b_54 : (6 : Int) ≤ x6.toInt := Int32.le_iff_toInt_le.mp q_53
          intro v2 ev2
          have t_55 : (x4 + (1 : Int32)).toInt = x4.toInt + 1 := i_add (x := x4) (y := (1 : Int32)) (by show (_ : Int) ≤ x4.toInt + 1; omega) (by show x4.toInt + 1 ≤ (_ : Int); omega)
          have t_56 : v2.toInt = (x4 + (1 : Int32)).toInt := congrArg Int32.toInt ev2
          exact ih68 x1 x2 x3 v2 σ mσ fσ (by omega) (by omega) (by omega) (by omega) (by omega) (by omega) (by first | with_reducible assumption | with_reducible rfl | omega | assumption | rfl) (by first | assumption | exact CD_le i2 (by omega)) (by first | with_reducible assumption | with_reducible rfl | omega | assumption | rfl) (by omega)
        · intro q_53
          have b_57 : ¬ (6 : Int) ≤ x6.toInt := fun h9 => q_53 (Int32.le_iff_toInt_le.mpr h9)
          have hv_58 : vp_in x6 6 := vp_in_iff.mpr ⟨by omega, by omega⟩
          refine ⟨hv_58, ?_⟩
          refine ⟨hv_58, ?_⟩
          intro σ5 eσ5
          have t_59 := MI_a110 mσ hv_58
          have mσ5 : MI σ5 := by rw [eσ5]; exact MIs_a139 mσ (by omega) (by omega)
          have fσ5 : Fr [74, 105, 106, 107, 108, 110, 129, 131, 132, 134, 135, 136, 137, 138, 139] [1, 30, 33] σ0 σ5 := by rw [eσ5]; exact Fr_si fσ (by decide +kernel) (fun h9 => absurd h9 (by decide +kernel))
          have k_60 : (gi σ5 74 0).toInt = (gi σ 74 0).toInt := gk_l eσ5 rfl
          have k_61 : (gi σ5 74 1).toInt = (gi σ 74 1).toInt := gk_l eσ5 rfl
          intro v6 ev6
          have t_62 : (x6 + (1 : Int32)).toInt = x6.toInt + 1 := i_add (x := x6) (y := (1 : Int32)) (by show (_ : Int) ≤ x6.toInt + 1; omega) (by show x6.toInt + 1 ≤ (_ : Int); omega)
          have t_63 : v6.toInt = (x6 + (1 : Int32)).toInt := congrArg Int32.toInt ev6
          exact ih99 x1 x2 x3 x4 v6 σ5 mσ5 fσ5 (by omega) (by omega) (by omega) (by omega) (by omega) (by omega) (by omega) (by omega) (by first | with_reducible assumption | with_reducible rfl | omega | assumption | rfl) (by first | assumption | (rw [eσ5]; exact CD_st i1 (by decide +kernel))) (by first | with_reducible assumption | with_reducible rfl | omega | assumption | rfl) (by omega)
  obtain ⟨U39, U68, U135, U99⟩ := T 9000
  have f0 : Fr [74, 105, 106, 107, 108, 110, 129, 131, 132, 134, 135, 136, 137, 138, 139] [1, 30, 33] σ0 σ0 := Fr_rf
  have mw := MI_f0 m0
  refine s_X12_order_0 C hN ?_
  refine k_X12_in m0  (fun r2 σ1 mσ1 cσ1 plσ1 phσ1 (pσ1_0 : (r2.toInt = 1 ∧ ((-1) : Int) ≤ a2.toInt ∧ a2.toInt ≤ (4 : Int)) ∨ (r2.toInt = 0 ∧ (a2.toInt < ((-1) : Int) ∨ (4 : Int) < a2.toInt))) => ?_)
  obtain rfl := Fr_nil cσ1
  refine ⟨?_, ?_⟩
  · intro q_64
    have b_65 : ¬ r2.toInt = 0 := fun h9 => q_64 (Int32.toInt_inj.mp h9)
    refine k_X12_in m0  (fun r5 σ4 mσ4 cσ4 plσ4 phσ4 (pσ4_0 : (r5.toInt = 1 ∧ (1 : Int) ≤ a1.toInt ∧ a1.toInt ≤ (12 : Int)) ∨ (r5.toInt = 0 ∧ (a1.toInt < (1 : Int) ∨ (12 : Int) < a1.toInt))) => ?_)
    obtain rfl := Fr_nil cσ4
    refine ⟨?_, ?_⟩
    · intro q_66
      have b_67 : ¬ r5.toInt = 0 := fun h9 => q_66 (Int32.toInt_inj.mp h9)
      refine ⟨?_, ?_⟩
      · intro q_68
        have t_69 := MI_f0 m0
        have b_70 : (gi σ0 74 0).toInt ≤ 5 := Int32.le_iff_toInt_le.mp q_68
        have z_71 : (0 : Int32).toInt = 0 := rfl
        exact U39 a1 a2 (0 : Int32) σ0 m0 f0 (by omega) (by omega) (by omega) (by omega) (by omega) (by omega) (by first | with_reducible assumption | with_reducible rfl | omega | assumption | rfl) (by first | exact CD_rf | (rw [eσ4]; exact CD_st i1 (by decide +kernel))) (by first | exact CD_0 (Int.le_refl 0) | (rw [show v5.toInt = x3.toInt + 1 from by omega, eσ4]; exact CD_step i2 i1 (by omega) (by omega))) (by first | with_reducible assumption | with_reducible rfl | omega | assumption | rfl) (by omega)
      · intro q_68
        have t_72 := MI_f0 m0
        have b_73 : ¬ (gi σ0 74 0).toInt ≤ 5 := fun h9 => q_68 (Int32.le_iff_toInt_le.mpr h9)
        have z_74 : (-9 : Int32).toInt = -9 := rfl
        exact h9ret (-9 : Int32) σ0 m0 f0 (by first | with_reducible assumption | with_reducible rfl | omega | assumption | rfl) (by first | exact CD_rf | exact CD_le i2 (by omega))
    · intro q_66
      have b_75 : r5.toInt = 0 := congrArg Int32.toInt q_66
      have z_76 : (-2 : Int32).toInt = -2 := rfl
      exact h9ret (-2 : Int32) σ0 m0 f0 (by first | with_reducible assumption | with_reducible rfl | omega | assumption | rfl) (by first | exact CD_rf | exact CD_le i2 (by omega))
  · intro q_64
    have b_77 : r2.toInt = 0 := congrArg Int32.toInt q_64
    have z_78 : (-1 : Int32).toInt = -1 := rfl
    exact h9ret (-1 : Int32) σ0 m0 f0 (by first | with_reducible assumption | with_reducible rfl | omega | assumption | rfl) (by first | exact CD_rf | exact CD_le i2 (by omega))
