/-! a clause, without the machine -/
noncomputable def wtx : Nat → List Int
  | 0 => [102, 97, 115, 116, 32]
  | 1 => [115, 108, 111, 119, 32]
  | 2 => [103, 97, 112, 32]
  | 3 => [116, 105, 114, 101, 32]
  | _ => [108, 111, 110, 103, 32]
noncomputable def pmatch (nx : Nat → Int) : List Int → Nat → Bool × Nat
  | [], p => (true, p)
  | c :: l, p => if nx p = c then pmatch nx l (p + 1) else (false, p)
/-- a clause: whether, up to where, word, number, its signs -/
noncomputable def pclause (nx : Nat → Int) (p : Nat) : Bool × Nat × Nat × Nat × List Tok :=
  match wrd (nx p) with
  | none => (false, p, 0, 0, [])
  | some w =>
    if (pmatch nx (wtx w) p).1 = true then
      (if (pnum nx (pmatch nx (wtx w) p).2).1 = true then
        (if 2 ≤ w then (true, (pnum nx (pmatch nx (wtx w) p).2).2.1, w, (pnum nx (pmatch nx (wtx w) p).2).2.2, [])
         else if nx (pnum nx (pmatch nx (wtx w) p).2).2.1 = 32 then
           ((pE nx ((pnum nx (pmatch nx (wtx w) p).2).2.1 + 1)).1, (pE nx ((pnum nx (pmatch nx (wtx w) p).2).2.1 + 1)).2.1, w, (pnum nx (pmatch nx (wtx w) p).2).2.2, (pE nx ((pnum nx (pmatch nx (wtx w) p).2).2.1 + 1)).2.2)
         else (false, (pnum nx (pmatch nx (wtx w) p).2).2.1, 0, 0, []))
       else (false, (pnum nx (pmatch nx (wtx w) p).2).2.1, 0, 0, []))
    else (false, (pmatch nx (wtx w) p).2, 0, 0, [])
/-- the class's word w -/
theorem wordLC {nx e c0 L} {x2 : Nat} (hx : NXo nx e) (hc : 69 ≤ c0) (hx2 : x2 < 8) : ∀ (l : List Int) n p σ (x3 : Int32) (i : Nat), RdC nx e c0 p L σ → x3.toInt = (i : Int) → i + l.length = slen x2 → l.length < n → (∀ j c, l[j]? = some c → (sby x2 (i + j)).toInt = c ∧ 0 ≤ c) →
    ((pmatch nx l p).1 = true → ∃ σ', LF_X2_readsWord c0 n x2 x3 σ = (1, σ') ∧ RdC nx e c0 (pmatch nx l p).2 L σ' ∧ FXc c0 σ σ') ∧ ((pmatch nx l p).1 = false → ∃ σ', LF_X2_readsWord c0 n x2 x3 σ = (0, σ') ∧ (gi σ' c0 11).toInt = ((pmatch nx l p).2 : Int) ∧ FXc c0 σ σ') := by
  have hs := nI_slen hx2
  intro l
  induction l with
  | nil =>
    intro n p σ x3 i h h3 hl hn _
    obtain ⟨n, rfl⟩ : ∃ k, n = k + 1 := ⟨n - 1, by have : ([] : List Int).length = 0 := rfl; omega⟩
    have hl : i + 0 = slen x2 := hl
    refine ⟨fun _ => ⟨σ, ?_, h, FXc_rf⟩, fun h9 => by cases h9⟩
    show LB_X2_readsWord_7 c0 (LF_X2_readsWord c0 n) x2 x3 σ = (1, σ)
    unfold LB_X2_readsWord_7 F_J0_length_8abf5
    rw [fb_e, if_pos (Int32.le_iff_toInt_le.mpr (by rw [hs.1]; omega))]
  | cons c l ih =>
    intro n p σ x3 i h h3 hl hn hb
    rw [List.length_cons] at hl hn
    obtain ⟨n, rfl⟩ : ∃ k, n = k + 1 := ⟨n - 1, by omega⟩
    obtain ⟨b1, b2⟩ := hb 0 c rfl
    have ec := cl_eq (x := x3) (by omega)
    have E1 : LF_X2_readsWord c0 (n + 1) x2 x3 σ = fb (F_X2_takes c0 (sby x2 i) σ) (fun r7 σ6 => (if r7 = 0 then ((0 : Int32), σ6) else fl (x3 + 1) (fun v9 => LF_X2_readsWord c0 n x2 v9 σ6))) := by
      show LB_X2_readsWord_7 c0 (LF_X2_readsWord c0 n) x2 x3 σ = _
      unfold LB_X2_readsWord_7 F_J0_length_8abf5 F_J0_charAt_5068e
      rw [fb_e, if_neg (fun h9 => by have := Int32.le_iff_toInt_le.mp h9; rw [hs.1] at this; omega), fb_e, show x3.toNatClampNeg = i from by omega]
    rw [E1]
    rw [Nat.add_zero] at b1
    by_cases q : nx p = c
    · have ep : pmatch nx (c :: l) p = pmatch nx l (p + 1) := if_pos q
      obtain ⟨t1, t2, t3⟩ := takesC_t hx hc h b1 b2 q
      rw [ep, t1, fb_e, if_neg (show ¬ (1 : Int32) = 0 by decide), fl_e]
      have t9 : (x3 + (1 : Int32)).toInt = x3.toInt + 1 := i_add (y := (1 : Int32)) (by show (_ : Int) ≤ x3.toInt + 1; omega) (by have := hs.1; have := Int32.toInt_lt (nI (slen x2)); show x3.toInt + 1 ≤ (2147483647 : Int); omega)
      have k := ih n (p + 1) _ (x3 + 1) (i + 1) t2 (by rw [t9]; omega) (by omega) (by omega) (fun j c' hj => by
        have := hb (j + 1) c' hj
        rw [show i + (j + 1) = i + 1 + j from by omega] at this
        exact this)
      refine ⟨fun h9 => ?_, fun h9 => ?_⟩
      · obtain ⟨σ', k1, k2, k3⟩ := k.1 h9
        exact ⟨σ', k1, k2, FXc_tr t3 k3⟩
      · obtain ⟨σ', k1, k2, k3⟩ := k.2 h9
        exact ⟨σ', k1, k2, FXc_tr t3 k3⟩
    · have ep : pmatch nx (c :: l) p = (false, p) := if_neg q
      rw [ep, takesC_f hx h b1 q, fb_e, if_pos rfl]
      exact ⟨fun h9 => (by cases h9), fun _ => ⟨σ, rfl, h.at_, FXc_rf⟩⟩
