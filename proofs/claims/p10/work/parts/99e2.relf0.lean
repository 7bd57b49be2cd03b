/-! at the start both are alike, texts and fields too -/
theorem st_ltrs : ∀ j, j < 19 → (gi st0 127 j).toInt = ltrs.getD j 0 := by decide +kernel
theorem st_LTM : LTM st0 := by
  intro j c h
  have hj : j < 19 := (List.getElem?_eq_some_iff.mp h).1
  have := st_ltrs j hj
  rw [List.getD_eq_getElem?_getD, h] at this
  exact this
theorem st_Fd : FdA st0 69 [] := by
  refine ⟨⟨by decide, fun i c h => ?_⟩, ⟨by decide, by decide, by decide⟩, ⟨by decide, fun j t h => ?_⟩⟩
  · rw [List.getElem?_nil] at h; cases h
  · rw [show toksOf ([] : List Cls) = [] from rfl, List.getElem?_nil] at h; cases h
theorem st_RF : RF st0 := by
  have e7 : (gi st0 0 7).toInt = 0 := by decide
  have e5 : (gi st0 0 5).toInt = 0 := by decide
  refine ⟨⟨⟨by decide, fun p hp => by omega⟩, ⟨by decide, by omega, fun k _ => Or.inl rfl, fun k hk => by omega⟩, st_Fd, st_LTM⟩, Or.inl ⟨by decide, rfl⟩, Or.inl ⟨by decide, rfl⟩⟩
theorem st_RELF : RELF st0 := ⟨st_REL, st_RF⟩
