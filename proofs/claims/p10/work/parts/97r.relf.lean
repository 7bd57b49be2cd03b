/-! both states alike, texts and fields too -/
noncomputable def RELF (σ : Sg) : Prop := REL σ ∧ RF σ
theorem CNT_count {a1 r1 r2 : Int32} {σ σ1 σ2 : Sg} (h41 : 0 ≤ (gi σ 74 41).toInt) (q : REL σ) (qf : RF σ) (f : FX (fun id => False) (fun _ _ => False) σ σ1) (h1 : F_X11_count a1 σ = (r1, σ1)) (h2 : F_X12_count a1 σ1 = (r2, σ2)) : r1 = r2 := by
  have e := FX_nil f
  subst e
  obtain ⟨⟨s1, s2, s3, s4, s5, s6, s7, s8, s9, s10, s11⟩, -, ⟨⟨tp, -⟩, -⟩⟩ := q
  obtain ⟨⟨⟨t1, -⟩, ⟨f1, -⟩, -⟩, -⟩ := qf
  unfold F_X11_count at h1
  unfold F_X12_count at h2
  by_cases c0 : a1.toInt = 0
  · rw [if_pos c0] at h1 h2
    rw [← (Prod.mk.inj h1).1, ← (Prod.mk.inj h2).1]; exact i_eq s1
  rw [if_neg c0] at h1 h2
  by_cases c1 : a1.toInt = 1
  · rw [if_pos c1] at h1 h2
    rw [← (Prod.mk.inj h1).1, ← (Prod.mk.inj h2).1]; exact i_eq f1
  rw [if_neg c1] at h1 h2
  by_cases c2 : a1.toInt = 2
  · rw [if_pos c2] at h1 h2
    rw [← (Prod.mk.inj h1).1, ← (Prod.mk.inj h2).1]
    exact i_eq (by rw [i_div (k := 3) (by omega) (by decide) rfl, s10]; omega)
  rw [if_neg c2] at h1 h2
  by_cases c3 : a1.toInt = 3
  · rw [if_pos c3] at h1 h2
    rw [← (Prod.mk.inj h1).1, ← (Prod.mk.inj h2).1]; exact i_eq s4
  rw [if_neg c3] at h1 h2
  by_cases c4 : a1.toInt = 4
  · rw [if_pos c4] at h1 h2
    rw [← (Prod.mk.inj h1).1, ← (Prod.mk.inj h2).1]; exact i_eq s6
  rw [if_neg c4] at h1 h2
  by_cases c5 : a1.toInt = 5
  · rw [if_pos c5] at h1 h2
    rw [← (Prod.mk.inj h1).1, ← (Prod.mk.inj h2).1]; exact i_eq t1
  rw [if_neg c5] at h1 h2
  by_cases c6 : a1.toInt = 6
  · rw [if_pos c6] at h1 h2
    rw [← (Prod.mk.inj h1).1, ← (Prod.mk.inj h2).1]; exact tp
  rw [if_neg c6] at h1 h2
  rw [← (Prod.mk.inj h1).1, ← (Prod.mk.inj h2).1]
