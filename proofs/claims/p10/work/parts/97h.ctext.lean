/-! the whole text, as the class reads it -/
noncomputable def ptext (nx : Nat → Int) (e : Nat) : Nat → Nat → List Cls → Bool × Nat × List Cls
  | 0, p, _ => (false, p, [])
  | k + 1, p, cl => if (pclause nx p).1 = true then (if (pclause nx p).2.1 = e then (true, e, cl ++ [(pclause nx p).2.2]) else if k = 0 then (false, (pclause nx p).2.1, []) else if nx (pclause nx p).2.1 = 59 then ptext nx e k ((pclause nx p).2.1 + 1) (cl ++ [(pclause nx p).2.2]) else (false, (pclause nx p).2.1, [])) else (false, (pclause nx p).2.1, [])
theorem ptext_s {nx e k p cl} : ptext nx e (k + 1) p cl = if (pclause nx p).1 = true then (if (pclause nx p).2.1 = e then (true, e, cl ++ [(pclause nx p).2.2]) else if k = 0 then (false, (pclause nx p).2.1, []) else if nx (pclause nx p).2.1 = 59 then ptext nx e k ((pclause nx p).2.1 + 1) (cl ++ [(pclause nx p).2.2]) else (false, (pclause nx p).2.1, [])) else (false, (pclause nx p).2.1, []) := Eq.trans rfl rfl
theorem textC {nx e c0 a1} (hx : NXo nx e) (hc : 69 ≤ c0) : ∀ k p cl σ (x3 : Int32) m, RdC nx e c0 p (toksOf cl) σ → FdR σ c0 cl → FdN σ c0 cl → cl.length + k + 1 = 10 → x3.toInt = 10 - (k : Int) → k + 1 ≤ m →
    ((ptext nx e (k + 1) p cl).1 = true → ∃ σ', LF_X2_reads c0 a1 m x3 σ = (1, σ') ∧ RdC nx e c0 e (toksOf (ptext nx e (k + 1) p cl).2.2) σ' ∧ FdR σ' c0 (ptext nx e (k + 1) p cl).2.2 ∧ FdN σ' c0 (ptext nx e (k + 1) p cl).2.2 ∧ (ptext nx e (k + 1) p cl).2.2.length ≤ 10 ∧ FXy c0 σ σ')
    ∧ ((ptext nx e (k + 1) p cl).1 = false → ∃ σ', LF_X2_reads c0 a1 m x3 σ = (0, σ') ∧ (gi σ' c0 11).toInt = ((ptext nx e (k + 1) p cl).2.1 : Int) ∧ FXy c0 σ σ') := by
  have z10 : (10 : Int32).toInt = 10 := rfl
  intro k
  induction k with
  | zero =>
    intro p cl σ x3 m h hR hN hl h3 hm
    obtain ⟨m, rfl⟩ : ∃ j, m = j + 1 := ⟨m - 1, by omega⟩
    have q := clauseC hx hc h hR hN (by omega)
    have E : LF_X2_reads c0 a1 (m + 1) x3 σ = fb (F_X2_readsClause c0 σ) (fun r3 σ2 => (if r3 = 0 then ((0 : Int32), σ2) else (if (gi σ2 c0 11) = (gi σ2 c0 10) then ((1 : Int32), σ2) else ((0 : Int32), σ2)))) := by
      show LB_X2_reads_48 c0 a1 (LF_X2_reads c0 a1 m) x3 σ = _
      unfold LB_X2_reads_48
      rw [if_pos (Int32.le_iff_toInt_le.mpr (by omega))]
    rw [E, ptext_s]
    by_cases hr : (pclause nx p).1 = true
    · obtain ⟨σ1, c1, c2, c3, c4, c5⟩ := q.1 hr
      rw [c1, fb_e, if_neg (show ¬ (1 : Int32) = 0 by decide), if_pos hr]
      by_cases hp : (pclause nx p).2.1 = e
      · rw [if_pos (show gi σ1 c0 11 = gi σ1 c0 10 from Int32.toInt_inj.mp (by rw [c2.at_, c2.en, hp])), if_pos hp]
        rw [hp] at c2
        refine ⟨fun _ => ⟨σ1, rfl, c2, c3, c4, ?_, c5⟩, fun h9 => by cases h9⟩
        show (cl ++ [(pclause nx p).2.2]).length ≤ 10
        rw [List.length_append]; show cl.length + 1 ≤ 10; omega
      · rw [if_neg (show ¬ gi σ1 c0 11 = gi σ1 c0 10 from fun h9 => hp (by have := c2.at_; rw [h9, c2.en] at this; omega)), if_neg hp, if_pos (show (0 : Nat) = 0 from rfl)]
        exact ⟨fun h9 => (by cases h9), fun _ => ⟨σ1, rfl, c2.at_, c5⟩⟩
    · obtain ⟨σ1, c1, c2, c3⟩ := q.2 (Bool.eq_false_iff.mpr hr)
      rw [c1, fb_e, if_pos rfl, if_neg hr]
      exact ⟨fun h9 => (by cases h9), fun _ => ⟨σ1, rfl, c2, c3⟩⟩
  | succ k ih =>
    intro p cl σ x3 m h hR hN hl h3 hm
    obtain ⟨m, rfl⟩ : ∃ j, m = j + 1 := ⟨m - 1, by omega⟩
    have q := clauseC hx hc h hR hN (by omega)
    have E : LF_X2_reads c0 a1 (m + 1) x3 σ = fb (F_X2_readsClause c0 σ) (fun r7 σ6 => (if r7 = 0 then ((0 : Int32), σ6) else fb (F_X2_takes c0 (59 : Int32) σ6) (fun r10 σ9 => (if r10 = 0 then (if (gi σ9 c0 11) = (gi σ9 c0 10) then ((1 : Int32), σ9) else ((0 : Int32), σ9)) else fl (x3 + 1) (fun v12 => LF_X2_reads c0 a1 m v12 σ9))))) := by
      show LB_X2_reads_48 c0 a1 (LF_X2_reads c0 a1 m) x3 σ = _
      unfold LB_X2_reads_48
      rw [if_neg (fun h9 => by have := Int32.le_iff_toInt_le.mp h9; omega)]
    rw [E, ptext_s]
    by_cases hr : (pclause nx p).1 = true
    · obtain ⟨σ1, c1, c2, c3, c4, c5⟩ := q.1 hr
      rw [c1, fb_e, if_neg (show ¬ (1 : Int32) = 0 by decide), if_pos hr]
      by_cases hp : (pclause nx p).2.1 = e
      · rw [takesC_f hx c2 (op := 59) rfl (by rw [hp, hx.hn e (Nat.le_refl _)]; decide), fb_e, if_pos rfl, if_pos (show gi σ1 c0 11 = gi σ1 c0 10 from Int32.toInt_inj.mp (by rw [c2.at_, c2.en, hp])), if_pos hp]
        rw [hp] at c2
        refine ⟨fun _ => ⟨σ1, rfl, c2, c3, c4, ?_, c5⟩, fun h9 => by cases h9⟩
        show (cl ++ [(pclause nx p).2.2]).length ≤ 10
        rw [List.length_append]; show cl.length + 1 ≤ 10; omega
      · rw [if_neg hp, if_neg (Nat.succ_ne_zero k)]
        by_cases hs : nx (pclause nx p).2.1 = 59
        · obtain ⟨t1, t2, t3⟩ := takesC_t hx hc c2 (op := 59) rfl (by decide) hs
          rw [t1, fb_e, if_neg (show ¬ (1 : Int32) = 0 by decide), fl_e, if_pos hs]
          have t9 : (x3 + (1 : Int32)).toInt = x3.toInt + 1 := i_add (y := (1 : Int32)) (by show (_ : Int) ≤ x3.toInt + 1; omega) (by show x3.toInt + 1 ≤ (_ : Int); omega)
          have g := ih ((pclause nx p).2.1 + 1) (cl ++ [(pclause nx p).2.2]) _ (x3 + 1) m t2 (FdR_c t3 c3) (FdN_c t3 c4) (by rw [List.length_append]; show cl.length + 1 + k + 1 = 10; omega) (by rw [t9]; omega) (by omega)
          refine ⟨fun h9 => ?_, fun h9 => ?_⟩
          · obtain ⟨σ', g1, g2, g3, g4, g5, g6⟩ := g.1 h9
            exact ⟨σ', g1, g2, g3, g4, g5, FXy_tr c5 (FXy_tr (FXy_c t3) g6)⟩
          · obtain ⟨σ', g1, g2, g3⟩ := g.2 h9
            exact ⟨σ', g1, g2, FXy_tr c5 (FXy_tr (FXy_c t3) g3)⟩
        · rw [takesC_f hx c2 (op := 59) rfl hs, fb_e, if_pos rfl, if_neg (show ¬ gi σ1 c0 11 = gi σ1 c0 10 from fun h9 => hp (by have := c2.at_; rw [h9, c2.en] at this; omega)), if_neg hs]
          exact ⟨fun h9 => (by cases h9), fun _ => ⟨σ1, rfl, c2.at_, c5⟩⟩
    · obtain ⟨σ1, c1, c2, c3⟩ := q.2 (Bool.eq_false_iff.mpr hr)
      rw [c1, fb_e, if_pos rfl, if_neg hr]
      exact ⟨fun h9 => (by cases h9), fun _ => ⟨σ1, rfl, c2, c3⟩⟩
/-- the signs of a text of e -/
noncomputable def txn (g : Nat → Int32) (e p : Nat) : Int := if p < e then (g p).toInt else -1
theorem NXo_txn {g : Nat → Int32} {e : Nat} (h : e ≤ 100) (hb : ∀ p, p < e → 0 ≤ (g p).toInt ∧ (g p).toInt ≤ 127) : NXo (txn g e) e := by
  refine ⟨h, fun p hp => ?_, fun p hp => ?_⟩
  · unfold txn; rw [if_neg (by omega)]
  · unfold txn; rw [if_pos hp]; exact hb p hp
noncomputable def FXg (c0 : Nat) (σ σ' : Sg) : Prop := FX (fun id => id = c0 + 1 ∨ id = c0 + 2 ∨ id = c0 + 3 ∨ id = c0 + 4) (fun id _ => id = c0) σ σ'
theorem readsC {e c0 : Nat} {σ : Sg} {a2 : Int32} (hc : 69 ≤ c0) (he : a2.toInt = (e : Int)) (h100 : e ≤ 100) (hb : ∀ p, p < e → 0 ≤ (gi σ 50 p).toInt ∧ (gi σ 50 p).toInt ≤ 127) :
    ((ptext (txn (fun p => gi σ 50 p) e) e 10 0 []).1 = true → ∃ σ', F_X2_reads c0 50 a2 σ = (1, σ') ∧ RdC (txn (fun p => gi σ 50 p) e) e c0 e (toksOf (ptext (txn (fun p => gi σ 50 p) e) e 10 0 []).2.2) σ' ∧ FdR σ' c0 (ptext (txn (fun p => gi σ 50 p) e) e 10 0 []).2.2 ∧ FdN σ' c0 (ptext (txn (fun p => gi σ 50 p) e) e 10 0 []).2.2 ∧ (ptext (txn (fun p => gi σ 50 p) e) e 10 0 []).2.2.length ≤ 10 ∧ FXg c0 σ σ')
    ∧ ((ptext (txn (fun p => gi σ 50 p) e) e 10 0 []).1 = false → ∃ σ', F_X2_reads c0 50 a2 σ = (0, σ') ∧ (gi σ' c0 11).toInt = ((ptext (txn (fun p => gi σ 50 p) e) e 10 0 []).2.1 : Int) ∧ FXg c0 σ σ') := by
  have hx := NXo_txn (g := fun p => gi σ 50 p) h100 hb
  obtain ⟨nx, en⟩ : ∃ nx, nx = txn (fun p => gi σ 50 p) e := ⟨_, rfl⟩
  rw [← en] at hx ⊢
  have z100 : (Int32.ofNat 100).toInt = 100 := rfl
  obtain ⟨σ9, e9⟩ : ∃ σ9, σ9 = si (si (sr (si (si (si (si (si σ c0 0 (2 : Int32)) c0 1 (1 : Int32)) c0 2 (60 : Int32)) c0 4 (0 : Int32)) c0 8 (0 : Int32)) c0 9 (some 50)) c0 10 (jmin a2 (Int32.ofNat 100))) c0 11 (0 : Int32) := ⟨_, rfl⟩
  have E : F_X2_reads c0 50 a2 σ = LF_X2_reads c0 50 90 (1 : Int32) σ9 := by
    unfold F_X2_reads
    simp only [fl_e]
    rw [← e9]
  have f9 : FXg c0 σ σ9 := by
    rw [e9]
    exact FX_si (FX_si (FX_sr (FX_si (FX_si (FX_si (FX_si (FX_si FX_rf (Or.inr rfl)) (Or.inr rfl)) (Or.inr rfl)) (Or.inr rfl)) (Or.inr rfl)) (Or.inr rfl)) (Or.inr rfl)) (Or.inr rfl)
  have r9 : RdC nx e c0 0 (toksOf []) σ9 := by
    rw [e9]
    refine ⟨?_, ?_, ?_, ?_, ⟨?_, ?_⟩, Nat.zero_le _, Nat.zero_le _⟩
    · rw [gr_si, gr_si, gr_sr, if_pos ⟨rfl, rfl⟩]
    · rw [gi_si_ne (Or.inr (by decide)), gi_si_eq, jmin_f, if_neg (by omega)]; exact he
    · intro q hq
      rw [gi_si_ne (Or.inl (by omega)), gi_si_ne (Or.inl (by omega)), gi_sr, gi_si_ne (Or.inl (by omega)), gi_si_ne (Or.inl (by omega)), gi_si_ne (Or.inl (by omega)), gi_si_ne (Or.inl (by omega)), gi_si_ne (Or.inl (by omega)), en]
      unfold txn; rw [if_pos hq]
    · rw [gi_si_eq]; rfl
    · rw [gi_si_ne (Or.inr (by decide)), gi_si_ne (Or.inr (by decide)), gi_sr, gi_si_ne (Or.inr (by decide)), gi_si_eq]; rfl
    · intro j t ht
      rw [show toksOf ([] : List Cls) = [] from rfl, List.getElem?_nil] at ht
      cases ht
  have R9 : FdR σ9 c0 [] := by
    refine ⟨?_, fun i c hi => ?_⟩
    · rw [e9, gi_si_ne (Or.inr (by decide)), gi_si_ne (Or.inr (by decide)), gi_sr, gi_si_eq]; rfl
    · rw [List.getElem?_nil] at hi; cases hi
  have N9 : FdN σ9 c0 [] := by
    rw [e9]
    refine ⟨?_, ?_, ?_⟩
    · rw [gi_si_ne (Or.inr (by decide)), gi_si_ne (Or.inr (by decide)), gi_sr, gi_si_ne (Or.inr (by decide)), gi_si_ne (Or.inr (by decide)), gi_si_ne (Or.inr (by decide)), gi_si_ne (Or.inr (by decide)), gi_si_eq]; rfl
    · rw [gi_si_ne (Or.inr (by decide)), gi_si_ne (Or.inr (by decide)), gi_sr, gi_si_ne (Or.inr (by decide)), gi_si_ne (Or.inr (by decide)), gi_si_ne (Or.inr (by decide)), gi_si_eq]; rfl
    · rw [gi_si_ne (Or.inr (by decide)), gi_si_ne (Or.inr (by decide)), gi_sr, gi_si_ne (Or.inr (by decide)), gi_si_ne (Or.inr (by decide)), gi_si_eq]; rfl
  have g := textC (a1 := 50) hx hc 9 0 [] σ9 (1 : Int32) 90 r9 R9 N9 rfl rfl (by decide)
  rw [E]
  have fy : ∀ {σ'}, FXy c0 σ9 σ' → FXg c0 σ σ' := fun f => FX_tr f9 f (fun _ h => h) (fun _ _ h => Or.inr h.1)
  refine ⟨fun h9 => ?_, fun h9 => ?_⟩
  · obtain ⟨σ', g1, g2, g3, g4, g5, g6⟩ := g.1 h9
    exact ⟨σ', g1, g2, g3, g4, g5, fy g6⟩
  · obtain ⟨σ', g1, g2, g3⟩ := g.2 h9
    exact ⟨σ', g1, g2, fy g3⟩
