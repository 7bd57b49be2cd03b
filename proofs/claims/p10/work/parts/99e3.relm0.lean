/-! at the start both are alike, the minutes too -/
theorem st_BNW : BNW st0 := by
  refine ⟨?_, ?_, ?_, ?_, ?_, ?_, ?_⟩ <;> (unfold BR; decide +kernel)
theorem st_BIM : BIM st0 := by
  refine ⟨?_, ?_, ?_, ?_, ?_, ?_, ?_⟩ <;> (unfold BR; decide +kernel)
theorem st_E1 : EQN st0 1 105 := by unfold EQN; decide +kernel
theorem st_E2 : EQN st0 17 158 := by unfold EQN; decide +kernel
theorem st_MN : MN st0 := ⟨st_BNW, st_BIM, st_E1, st_E2, by decide, by decide, by decide, by decide⟩
theorem st_RELM : RELM st0 := ⟨st_RELF, st_MN⟩
