/-! at the start both are alike, what is told by hand too -/
theorem st_g0 : gi st0 9 1 = 0 ∧ gi st0 25 1 = 0 ∧ gi st0 11 1 = 0 ∧ gi st0 27 1 = 0 := by decide +kernel
theorem st_SNP : SNP st0 := by
  obtain ⟨h9, h25, h11, h27⟩ := st_g0
  refine ⟨fun k hk => ?_, fun k hk => ?_, fun k hk => ?_, fun k hk => ?_⟩
  · exfalso; rw [show (1 + 8 : Nat) = 9 from rfl, h9] at hk; have hk : 3 * (k : Int) < 0 := hk; omega
  · exfalso; rw [show (17 + 8 : Nat) = 25 from rfl, h25] at hk; have hk : 3 * (k : Int) < 0 := hk; omega
  · exfalso; rw [show (1 + 10 : Nat) = 11 from rfl, h11] at hk; have hk : (k : Int) < 0 := hk; omega
  · exfalso; rw [show (17 + 10 : Nat) = 27 from rfl, h27] at hk; have hk : (k : Int) < 0 := hk; omega
theorem st_RELS : RELS st0 := ⟨st_RELM, st_SNP⟩
