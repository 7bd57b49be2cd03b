/-! both states alike, what is told by hand too -/
noncomputable def RELS (σ : Sg) : Prop := RELM σ ∧ SNP σ
