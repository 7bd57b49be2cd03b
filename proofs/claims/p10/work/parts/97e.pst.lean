/-! what the test keeps to -/
theorem ptest_up {nx e p} (hx : NXo nx e) (hp : p ≤ e) : (ptest nx p).2.1 ≤ e ∧ p ≤ (ptest nx p).2.1 := by
  have lt : ∀ q, q ≤ e → 0 ≤ nx q → q + 1 ≤ e := fun q _ h => ltC hx rfl h
  unfold ptest
  cases e1 : ltr (nx p) with
  | none => exact ⟨hp, Nat.le_refl _⟩
  | some f =>
    have h1 := lt p hp (ltr_lt e1).2
    cases e2 : cmpn (nx (p + 1)) with
    | none => simp only [e2]; exact ⟨h1, Nat.le_succ _⟩
    | some s =>
      have h2 := lt (p + 1) h1 (cmp_lt e2).2
      have hn : (pnum nx (p + 2)).2.1 ≤ e ∧ p + 2 ≤ (pnum nx (p + 2)).2.1 := by
        unfold pnum
        by_cases d0 : dig (nx (p + 2)) = true
        · have b0 := of_decide_eq_true d0
          have h3 := lt (p + 2) h2 (by omega)
          rw [if_pos d0]
          by_cases d1 : dig (nx (p + 2 + 1)) = true
          · have b1 := of_decide_eq_true d1
            have h4 := lt (p + 2 + 1) h3 (by omega)
            rw [if_pos d1]
            exact ⟨h4, by show p + 2 ≤ p + 2 + 2; omega⟩
          · rw [if_neg d1]
            exact ⟨h3, by show p + 2 ≤ p + 2 + 1; omega⟩
        · rw [if_neg d0]; exact ⟨h2, Nat.le_refl _⟩
      simp only [e2]
      by_cases hq : (pnum nx (p + 2)).1 = true
      · rw [if_pos hq]; exact ⟨hn.1, by show p ≤ (pnum nx (p + 2)).2.1; omega⟩
      · rw [if_neg hq]; exact ⟨hn.1, by show p ≤ (pnum nx (p + 2)).2.1; omega⟩
theorem ptest_st {nx e p} (hx : NXo nx e) (h : (ptest nx p).1 = true) : p ≤ e := by
  refine Nat.le_of_not_lt (fun hp => ?_)
  unfold ptest at h
  rw [hx.hn p (by omega)] at h
  cases h
theorem ptest_q {nx p} (h : nx p = 33 ∨ nx p = 40) : (ptest nx p).1 = false ∧ (ptest nx p).2.1 = p := by
  unfold ptest
  rcases h with h | h <;> (rw [h]; exact ⟨rfl, rfl⟩)
theorem ptest_lo {nx p} : p ≤ (ptest nx p).2.1 := by
  unfold ptest
  cases e1 : ltr (nx p) with
  | none => exact Nat.le_refl _
  | some f =>
    cases e2 : cmpn (nx (p + 1)) with
    | none => simp only [e2]; exact Nat.le_succ _
    | some s =>
      have hn : p + 2 ≤ (pnum nx (p + 2)).2.1 := by
        unfold pnum
        by_cases d0 : dig (nx (p + 2)) = true
        · rw [if_pos d0]
          by_cases d1 : dig (nx (p + 2 + 1)) = true
          · rw [if_pos d1]; show p + 2 ≤ p + 2 + 2; omega
          · rw [if_neg d1]; show p + 2 ≤ p + 2 + 1; omega
        · rw [if_neg d0]; exact Nat.le_refl _
      simp only [e2]
      by_cases hq : (pnum nx (p + 2)).1 = true
      · rw [if_pos hq]; show p ≤ (pnum nx (p + 2)).2.1; omega
      · rw [if_neg hq]; show p ≤ (pnum nx (p + 2)).2.1; omega
theorem PSt_test {nx e} (hx : NXo nx e) : PSt nx (ptest nx) e :=
  ⟨hx.hn, fun _ h => ⟨ptest_le hx h, (ptest_up hx (ptest_st hx h)).1⟩, fun _ _ => ptest_lo, fun _ h => ptest_q h⟩
/-- between the parts of a clause: the model reads the text, b signs are written in all -/
noncomputable abbrev RtM (nx : Nat → Int) (e b p : Nat) (σ : Sg) : Prop :=
  ((gi σ 74 13).toInt = (e : Int)) ∧ (∀ q, q < e → (gi σ 116 q).toInt = nx q) ∧ ((gi σ 74 14).toInt = (p : Int)) ∧ ((gi σ 74 24).toInt = (b : Int)) ∧ (p ≤ e) ∧ (b ≤ 500 + p)
theorem RtM.en {nx : Nat → Int} {e b p : Nat} {σ : Sg} (h : RtM nx e b p σ) : (gi σ 74 13).toInt = (e : Int) := h.1
theorem RtM.tx {nx : Nat → Int} {e b p : Nat} {σ : Sg} (h : RtM nx e b p σ) : ∀ q, q < e → (gi σ 116 q).toInt = nx q := h.2.1
theorem RtM.at_ {nx : Nat → Int} {e b p : Nat} {σ : Sg} (h : RtM nx e b p σ) : (gi σ 74 14).toInt = (p : Int) := h.2.2.1
theorem RtM.cn {nx : Nat → Int} {e b p : Nat} {σ : Sg} (h : RtM nx e b p σ) : (gi σ 74 24).toInt = (b : Int) := h.2.2.2.1
theorem RtM.le {nx : Nat → Int} {e b p : Nat} {σ : Sg} (h : RtM nx e b p σ) : p ≤ e := h.2.2.2.2.1
theorem RtM.bb {nx : Nat → Int} {e b p : Nat} {σ : Sg} (h : RtM nx e b p σ) : b ≤ 500 + p := h.2.2.2.2.2
/-- what a reading of E leaves alone in the model -/
noncomputable def FXf (b c : Nat) (σ σ' : Sg) : Prop := FX (fun id => id = 123) (fun id k => (id = 74 ∧ (k = 14 ∨ k = 15 ∨ k = 24 ∨ k = 25 ∨ k = 26)) ∨ (id = 122 ∧ b ≤ k) ∨ (id = 121 ∧ k = c) ∨ (id = 120 ∧ k = c)) σ σ'
/-- E from place p on, by parts -/
noncomputable def pE (nx : Nat → Int) (p : Nat) : PRd := peither nx (ppart nx (ptest nx) 4) p
theorem takesE_M {nx e b p σ} {a1 : Int32} (hx : NXo nx e) (h : RtM nx e b p σ) :
    ((pE nx p).1 = true → ∃ σ', F_X12_takesE a1 σ = (1, σ') ∧ RtM nx e (b + (pE nx p).2.2.length) (pE nx p).2.1 σ' ∧ (∀ j t, (pE nx p).2.2[j]? = some t → gi σ' 122 (b + j) = encM t) ∧ (gi σ' 120 a1.toNatClampNeg).toInt = (b : Int) ∧ (gi σ' 121 a1.toNatClampNeg).toInt = ((b + (pE nx p).2.2.length : Nat) : Int) ∧ FXf b a1.toNatClampNeg σ σ')
    ∧ ((pE nx p).1 = false → ∃ σ', F_X12_takesE a1 σ = (0, σ') ∧ (gi σ' 74 14).toInt = ((pE nx p).2.1 : Int) ∧ FXf b a1.toNatClampNeg σ σ') := by
  have e100 := hx.le
  have ple := h.le
  obtain ⟨σ4, q4⟩ : ∃ σ4, σ4 = si (si (si σ 74 25 (0 : Int32)) 74 26 (0 : Int32)) 120 a1.toNatClampNeg (gi (si (si σ 74 25 (0 : Int32)) 74 26 (0 : Int32)) 74 24) := ⟨_, rfl⟩
  have E0 : F_X12_takesE a1 σ = LF_X12_takesE 300 0 a1 (1 : Int32) 0 σ4 := by
    unfold F_X12_takesE
    rw [fl_e, fl_e, fl_e, ← q4]
  have f4 : FXf b a1.toNatClampNeg σ σ4 := by
    rw [q4]
    exact FX_si (FX_si (FX_si FX_rf (Or.inr (Or.inl ⟨rfl, by decide⟩))) (Or.inr (Or.inl ⟨rfl, by decide⟩))) (Or.inr (Or.inr (Or.inr (Or.inr ⟨rfl, rfl⟩))))
  have r4 : RdM nx e b p [] [] σ4 := by
    rw [q4]
    refine ⟨?_, ?_, ?_, ?_, ?_, ?_, trivial, ?_, ple, by have := h.bb; omega, Nat.zero_le _⟩
    · rw [gi_si_ne (Or.inl (by decide)), gi_si_ne (Or.inr (by decide)), gi_si_ne (Or.inr (by decide))]; exact h.en
    · intro q hq; rw [gi_si_ne (Or.inl (by decide)), gi_si_ne (Or.inl (by decide)), gi_si_ne (Or.inl (by decide))]; exact h.tx q hq
    · rw [gi_si_ne (Or.inl (by decide)), gi_si_ne (Or.inr (by decide)), gi_si_ne (Or.inr (by decide))]; exact h.at_
    · rw [gi_si_ne (Or.inl (by decide)), gi_si_ne (Or.inr (by decide)), gi_si_ne (Or.inr (by decide))]; exact h.cn
    · intro j t ht; cases ht
    · rw [gi_si_ne (Or.inl (by decide)), gi_si_ne (Or.inr (by decide)), gi_si_eq]; rfl
    · rw [gi_si_ne (Or.inl (by decide)), gi_si_eq]; rfl
  have g4 : (gi σ4 120 a1.toNatClampNeg).toInt = (b : Int) := by
    rw [q4, gi_si_eq, gi_si_ne (Or.inr (by decide)), gi_si_ne (Or.inr (by decide))]; exact h.cn
  have k := takesEM (x1 := a1) (k0 := p) hx 110 true [] p [] σ4 300 1 r4 (by show 0 + 0 + p ≤ p; omega) (fun _ h9 => by cases h9) (by omega) (by decide) ⟨fun _ => by decide, fun _ => rfl⟩
  rw [prun_E (PSt_test hx) (fun q hq => (ptest_up hx hq).1) e100 p 110 ple (by decide)] at k
  rw [show peither nx (ppart nx (ptest nx) 4) p = pE nx p from rfl] at k
  rw [E0]
  generalize LF_X12_takesE 300 0 a1 (1 : Int32) 0 σ4 = y at k ⊢
  obtain ⟨y1, y2⟩ := y
  have fe : FXf b a1.toNatClampNeg σ y2 := FX_tr f4 k.2.2 (fun _ h => h) (fun _ _ h => Or.inr (h.elim Or.inl (fun h => Or.inr (h.elim Or.inl (fun h => Or.inr (Or.inl h))))))
  by_cases hr : (pE nx p).1 = true
  · rw [if_pos hr] at k
    obtain ⟨u1, u2, u3, u4⟩ := k.1 hr
    replace u1 : y1 = 1 := u1
    refine ⟨fun _ => ⟨y2, by rw [u1], ⟨u2.en, u2.tx, u2.at_, u2.cn, u2.le, ?_⟩, u2.cd, ?_, u3, fe⟩, fun h9 => by rw [hr] at h9; cases h9⟩
    · have h1 := u2.le
      have h2 := h.bb
      omega
    · rw [k.2.2.1 120 _ (by decide) (by rintro (⟨h9, -⟩ | ⟨h9, -⟩ | ⟨h9, -⟩) <;> exact absurd h9 (by decide))]; exact g4
  · have hr' : (pE nx p).1 = false := Bool.eq_false_iff.mpr hr
    rw [if_neg hr] at k
    obtain ⟨u1, u2⟩ := k.2.1 rfl
    replace u1 : y1 = 0 := u1
    exact ⟨fun h9 => absurd h9 hr, fun _ => ⟨y2, by rw [u1], u2, fe⟩⟩
