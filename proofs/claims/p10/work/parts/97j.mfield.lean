/-! the model's text, its field -/
noncomputable abbrev ClsM (σ : Sg) (f : Nat) (cl : List Cls) : Prop := ∀ i c, cl[i]? = some c → ClM σ (10 * f + i) c (100 * f + (toksOf (cl.take i)).length)
theorem ClM_fx {b c c9 lo : Nat} {k : Cls} {σ σ' : Sg} (f : FXk b c9 σ σ') (hc : c ≠ c9) (hb : lo + k.2.2.length ≤ b) (h : ClM σ c k lo) : ClM σ' c k lo := by
  have e : ∀ id, id = 118 ∨ id = 119 ∨ id = 120 ∨ id = 121 → gi σ' id c = gi σ id c := fun id hid => FX_i f (by omega) (by rintro (⟨h9, -⟩ | ⟨h9, -⟩ | ⟨-, h9⟩) <;> omega)
  refine ⟨by rw [e 118 (by omega)]; exact h.1, by rw [e 119 (by omega)]; exact h.2.1, fun hw => ?_, fun j t ht => ?_⟩
  · rw [e 120 (by omega), e 121 (by omega)]; exact h.2.2.1 hw
  · have hj := (List.getElem?_eq_some_iff.mp ht).1
    rw [FX_i f (show ¬ (122 : Nat) = 123 by decide) (by rintro (⟨h9, -⟩ | ⟨-, h9⟩ | ⟨h9, -⟩) <;> omega)]
    exact h.2.2.2 j t ht
theorem ClM_si {c lo a j : Nat} {v : Int32} {k : Cls} {σ : Sg} (ha : a < 118 ∨ 122 < a) (h : ClM σ c k lo) : ClM (si σ a j v) c k lo := by
  have e : ∀ id i, 118 ≤ id → id ≤ 122 → gi (si σ a j v) id i = gi σ id i := fun id i h1 h2 => gi_si_ne (Or.inl (by omega))
  refine ⟨by rw [e 118 _ (by decide) (by decide)]; exact h.1, by rw [e 119 _ (by decide) (by decide)]; exact h.2.1, fun hw => ?_, fun j t ht => ?_⟩
  · rw [e 120 _ (by decide) (by decide), e 121 _ (by decide) (by decide)]; exact h.2.2.1 hw
  · rw [e 122 _ (by decide) (by decide)]; exact h.2.2.2 j t ht
theorem toks_take {cl : List Cls} {i : Nat} {c : Cls} (h : cl[i]? = some c) : (toksOf (cl.take i)).length + c.2.2.length ≤ (toksOf cl).length := by
  induction cl generalizing i with
  | nil => rw [List.getElem?_nil] at h; cases h
  | cons d cl ih =>
    have e : ∀ l : List Cls, toksOf (d :: l) = d.2.2 ++ toksOf l := fun l => by unfold toksOf; rw [List.map_cons, List.flatten_cons]
    cases i with
    | zero =>
      have h : some d = some c := h
      cases h
      rw [e, List.length_append, List.take_zero]
      show 0 + _ ≤ _
      omega
    | succ i =>
      have := ih (i := i) h
      rw [List.take_succ_cons, e, e, List.length_append, List.length_append]
      omega
/-- what the reading of field f leaves alone in the model -/
noncomputable def FXx (f : Nat) (σ σ' : Sg) : Prop := FX (fun id => id = 123) (fun id k => (id = 74 ∧ (k = 14 ∨ k = 15 ∨ k = 24 ∨ k = 25 ∨ k = 26)) ∨ (id = 122 ∧ 100 * f ≤ k) ∨ ((id = 118 ∨ id = 119 ∨ id = 120 ∨ id = 121) ∧ 10 * f ≤ k) ∨ (id = 117 ∧ k = f)) σ σ'
theorem FXx_tr {f : Nat} {σ σ1 σ2 : Sg} (g : FXx f σ σ1) (h : FXx f σ1 σ2) : FXx f σ σ2 := FX_tr g h (fun _ h => h) (fun _ _ h => Or.inr h)
theorem FXx_k {f b c : Nat} {σ σ1 : Sg} (hb : 100 * f ≤ b) (hc : 10 * f ≤ c) (g : FXk b c σ σ1) : FXx f σ σ1 := FX_tr FX_rf g (fun _ h => h) (fun _ _ h => Or.inr (h.elim Or.inl (fun h => h.elim (fun h => Or.inr (Or.inl ⟨h.1, by omega⟩)) (fun h => Or.inr (Or.inr (Or.inl ⟨h.1, by omega⟩))))))
theorem FXx_t {f : Nat} {σ σ1 : Sg} (g : FXt σ σ1) : FXx f σ σ1 := FX_tr FX_rf g (fun _ h => h.elim) (fun _ _ h => Or.inr (Or.inl ⟨h.1, h.2.elim Or.inl (fun h => Or.inr (Or.inl h))⟩))
theorem textM {nx : Nat → Int} {e f : Nat} {x1 : Int32} (hx : NXo nx e) (h1 : x1.toInt = (f : Int)) (hf : f ≤ 5) : ∀ k p cl σ (x2 : Int32) m, RtM nx e (100 * f + (toksOf cl).length) p σ → LTM σ → ClsM σ f cl → cl.length + k + 1 = 10 → x2.toInt = (cl.length : Int) → k + 1 ≤ m →
    ((ptext nx e (k + 1) p cl).1 = true → ∃ σ', LF_X12_goesText m x1 x2 σ = (1, σ') ∧ ClsM σ' f (ptext nx e (k + 1) p cl).2.2 ∧ (gi σ' 117 f).toInt = ((ptext nx e (k + 1) p cl).2.2.length : Int) ∧ FXx f σ σ')
    ∧ ((ptext nx e (k + 1) p cl).1 = false → ∃ σ', LF_X12_goesText m x1 x2 σ = (0, σ') ∧ (gi σ' 74 14).toInt = ((ptext nx e (k + 1) p cl).2.1 : Int) ∧ FXx f σ σ') := by
  have z10 : (10 : Int32).toInt = 10 := rfl
  have ec := cl_eq (x := x1) (by omega)
  have ef : x1.toNatClampNeg = f := by omega
  intro k
  induction k with
  | zero =>
    intro p cl σ x2 m h hL hC hl h2 hm
    obtain ⟨m, rfl⟩ : ∃ j, m = j + 1 := ⟨m - 1, by omega⟩
    have m1 : ((10 : Int32) * x1).toInt = 10 * x1.toInt := i_mull rfl (by omega) (by omega)
    have m2 : (((10 : Int32) * x1) + x2).toInt = ((10 : Int32) * x1).toInt + x2.toInt := i_add (by omega) (by omega)
    have ei := cl_eq (x := ((10 : Int32) * x1) + x2) (by omega)
    have en : (((10 : Int32) * x1) + x2).toNatClampNeg = 10 * f + cl.length := by omega
    have t9 : (x2 + (1 : Int32)).toInt = x2.toInt + 1 := i_add (y := (1 : Int32)) (by show (_ : Int) ≤ x2.toInt + 1; omega) (by show x2.toInt + 1 ≤ (_ : Int); omega)
    have q := clauseM (a1 := ((10 : Int32) * x1) + x2) hx h hL
    rw [en] at q
    show (_ → ∃ σ', LB_X12_goesText_15 (LF_X12_goesText m) x1 x2 σ = _ ∧ _) ∧ (_ → ∃ σ', LB_X12_goesText_15 (LF_X12_goesText m) x1 x2 σ = _ ∧ _)
    unfold LB_X12_goesText_15
    rw [ptext_s]
    by_cases hr : (pclause nx p).1 = true
    · obtain ⟨σ1, c1, c2, c3, c4⟩ := q.1 hr
      rw [c1, fb_e, if_neg (show ¬ (1 : Int32) = 0 by decide), if_pos hr, fl_e, fl_e, ef]
      obtain ⟨σ6, e6⟩ : ∃ σ6, σ6 = si σ1 117 f (x2 + 1) := ⟨_, rfl⟩
      rw [← e6]
      have r6 : RtM nx e (100 * f + (toksOf cl).length + (pclause nx p).2.2.2.2.length) (pclause nx p).2.1 σ6 := by rw [e6]; exact RtM_row ⟨by decide, by decide⟩ c2
      have f6 : FXx f σ σ6 := by
        rw [e6]
        exact FXx_tr (FXx_k (by omega) (by omega) c4) (FX_si FX_rf (Or.inr (Or.inr (Or.inr (Or.inr ⟨rfl, rfl⟩)))))
      by_cases hp : (pclause nx p).2.1 = e
      · rw [if_pos (show gi σ6 74 14 = gi σ6 74 13 from Int32.toInt_inj.mp (by rw [r6.at_, r6.en, hp])), if_pos hp]
        refine ⟨fun _ => ⟨σ6, rfl, fun i c hi => ?_, ?_, f6⟩, fun h9 => by cases h9⟩
        · have hi : (cl ++ [(pclause nx p).2.2])[i]? = some c := hi
          rw [e6]
          refine ClM_si (Or.inl (by decide)) ?_
          show ClM σ1 (10 * f + i) c (100 * f + (toksOf ((cl ++ [(pclause nx p).2.2]).take i)).length)
          by_cases hj : i = cl.length
          · rw [hj, List.getElem?_append_right (Nat.le_refl _), Nat.sub_self] at hi
            have hi : some (pclause nx p).2.2 = some c := hi
            cases hi
            rw [hj, List.take_append_of_le_length (Nat.le_refl _), List.take_length]
            exact c3
          · have hj2 : i < cl.length := by
              have := (List.getElem?_eq_some_iff.mp hi).1
              rw [List.length_append] at this
              have : i < cl.length + 1 := this
              omega
            rw [List.getElem?_append_left hj2] at hi
            rw [List.take_append_of_le_length (by omega)]
            exact ClM_fx c4 (by omega) (by have := toks_take hi; omega) (hC i c hi)
        · rw [e6, gi_si_eq, t9]
          show _ = ((cl ++ [(pclause nx p).2.2]).length : Int)
          rw [List.length_append]; show _ = ((cl.length + 1 : Nat) : Int); omega
      · rw [if_neg (show ¬ gi σ6 74 14 = gi σ6 74 13 from fun h9 => hp (by have := r6.at_; rw [h9, r6.en] at this; omega)), if_neg hp, if_pos (show (0 : Nat) = 0 from rfl), if_pos (show x2 + 1 = (10 : Int32) from Int32.toInt_inj.mp (by omega))]
        exact ⟨fun h9 => (by cases h9), fun _ => ⟨σ6, rfl, r6.at_, f6⟩⟩
    · obtain ⟨σ1, c1, c2, c3⟩ := q.2 (Bool.eq_false_iff.mpr hr)
      rw [c1, fb_e, if_pos rfl, if_neg hr]
      exact ⟨fun h9 => (by cases h9), fun _ => ⟨σ1, rfl, c2, FXx_k (by omega) (by omega) c3⟩⟩
  | succ k ih =>
    intro p cl σ x2 m h hL hC hl h2 hm
    obtain ⟨m, rfl⟩ : ∃ j, m = j + 1 := ⟨m - 1, by omega⟩
    have m1 : ((10 : Int32) * x1).toInt = 10 * x1.toInt := i_mull rfl (by omega) (by omega)
    have m2 : (((10 : Int32) * x1) + x2).toInt = ((10 : Int32) * x1).toInt + x2.toInt := i_add (by omega) (by omega)
    have ei := cl_eq (x := ((10 : Int32) * x1) + x2) (by omega)
    have en : (((10 : Int32) * x1) + x2).toNatClampNeg = 10 * f + cl.length := by omega
    have t9 : (x2 + (1 : Int32)).toInt = x2.toInt + 1 := i_add (y := (1 : Int32)) (by show (_ : Int) ≤ x2.toInt + 1; omega) (by show x2.toInt + 1 ≤ (_ : Int); omega)
    have q := clauseM (a1 := ((10 : Int32) * x1) + x2) hx h hL
    rw [en] at q
    show (_ → ∃ σ', LB_X12_goesText_15 (LF_X12_goesText m) x1 x2 σ = _ ∧ _) ∧ (_ → ∃ σ', LB_X12_goesText_15 (LF_X12_goesText m) x1 x2 σ = _ ∧ _)
    unfold LB_X12_goesText_15
    rw [ptext_s]
    by_cases hr : (pclause nx p).1 = true
    · obtain ⟨σ1, c1, c2, c3, c4⟩ := q.1 hr
      rw [c1, fb_e, if_neg (show ¬ (1 : Int32) = 0 by decide), if_pos hr, fl_e, fl_e, ef]
      obtain ⟨σ6, e6⟩ : ∃ σ6, σ6 = si σ1 117 f (x2 + 1) := ⟨_, rfl⟩
      rw [← e6]
      have r6 : RtM nx e (100 * f + (toksOf cl).length + (pclause nx p).2.2.2.2.length) (pclause nx p).2.1 σ6 := by rw [e6]; exact RtM_row ⟨by decide, by decide⟩ c2
      have f6 : FXx f σ σ6 := by
        rw [e6]
        exact FXx_tr (FXx_k (by omega) (by omega) c4) (FX_si FX_rf (Or.inr (Or.inr (Or.inr (Or.inr ⟨rfl, rfl⟩)))))
      have C6 : ClsM σ6 f (cl ++ [(pclause nx p).2.2]) := by
        intro i c hi
        rw [e6]
        refine ClM_si (Or.inl (by decide)) ?_
        show ClM σ1 (10 * f + i) c (100 * f + (toksOf ((cl ++ [(pclause nx p).2.2]).take i)).length)
        by_cases hj : i = cl.length
        · rw [hj, List.getElem?_append_right (Nat.le_refl _), Nat.sub_self] at hi
          have hi : some (pclause nx p).2.2 = some c := hi
          cases hi
          rw [hj, List.take_append_of_le_length (Nat.le_refl _), List.take_length]
          exact c3
        · have hj2 : i < cl.length := by
            have := (List.getElem?_eq_some_iff.mp hi).1
            rw [List.length_append] at this
            have : i < cl.length + 1 := this
            omega
          rw [List.getElem?_append_left hj2] at hi
          rw [List.take_append_of_le_length (by omega)]
          exact ClM_fx c4 (by omega) (by have := toks_take hi; omega) (hC i c hi)
      have n6 : (gi σ6 117 f).toInt = ((cl ++ [(pclause nx p).2.2]).length : Int) := by
        rw [e6, gi_si_eq, t9, List.length_append]; show _ = ((cl.length + 1 : Nat) : Int); omega
      by_cases hp : (pclause nx p).2.1 = e
      · rw [if_pos (show gi σ6 74 14 = gi σ6 74 13 from Int32.toInt_inj.mp (by rw [r6.at_, r6.en, hp])), if_pos hp]
        exact ⟨fun _ => ⟨σ6, rfl, C6, n6, f6⟩, fun h9 => by cases h9⟩
      · rw [if_neg (show ¬ gi σ6 74 14 = gi σ6 74 13 from fun h9 => hp (by have := r6.at_; rw [h9, r6.en] at this; omega)), if_neg hp, if_neg (Nat.succ_ne_zero k), if_neg (show ¬ x2 + 1 = (10 : Int32) from fun h9 => by rw [h9] at t9; omega)]
        by_cases hs : nx (pclause nx p).2.1 = 59
        · obtain ⟨t1, t2, t3⟩ := takesT_t hx r6 (op := 59) rfl (by decide) hs
          rw [t1, fb_e, if_neg (show ¬ (1 : Int32) = 0 by decide), if_pos hs]
          have L6 : LTM σ6 := LTM_eq (fun j => by rw [e6, gi_si_ne (Or.inl (by decide)), FX_i c4 (show ¬ (127 : Nat) = 123 by decide) (by rintro (⟨h9, -⟩ | ⟨h9, -⟩ | ⟨h9, -⟩) <;> omega)]) hL
          have g := ih ((pclause nx p).2.1 + 1) (cl ++ [(pclause nx p).2.2]) _ (x2 + 1) m (by rw [toksOf_ap, List.length_append, ← Nat.add_assoc]; exact t2) (LTM_eq (fun j => gi_si_ne (Or.inl (by decide))) L6) (fun i c hi => ClM_si (Or.inl (by decide)) (C6 i c hi)) (by rw [List.length_append]; show cl.length + 1 + k + 1 = 10; omega) (by rw [t9, List.length_append]; show _ = ((cl.length + 1 : Nat) : Int); omega) (by omega)
          refine ⟨fun h9 => ?_, fun h9 => ?_⟩
          · obtain ⟨σ', g1, g2, g3, g4⟩ := g.1 h9
            exact ⟨σ', g1, g2, g3, FXx_tr f6 (FXx_tr (FXx_t t3) g4)⟩
          · obtain ⟨σ', g1, g2, g3⟩ := g.2 h9
            exact ⟨σ', g1, g2, FXx_tr f6 (FXx_tr (FXx_t t3) g3)⟩
        · rw [takesT_f hx r6 (op := 59) rfl hs, fb_e, if_pos rfl, if_neg hs]
          exact ⟨fun h9 => (by cases h9), fun _ => ⟨σ6, rfl, r6.at_, f6⟩⟩
    · obtain ⟨σ1, c1, c2, c3⟩ := q.2 (Bool.eq_false_iff.mpr hr)
      rw [c1, fb_e, if_pos rfl, if_neg hr]
      exact ⟨fun h9 => (by cases h9), fun _ => ⟨σ1, rfl, c2, FXx_k (by omega) (by omega) c3⟩⟩
theorem goesM {e f : Nat} {σ : Sg} {a1 : Int32} (he : (gi σ 74 13).toInt = (e : Int)) (h100 : e ≤ 100) (hb : ∀ p, p < e → 0 ≤ (gi σ 116 p).toInt ∧ (gi σ 116 p).toInt ≤ 127) (hL : LTM σ) (h1 : a1.toInt = (f : Int)) (hf : f ≤ 5) :
    ((ptext (txn (fun p => gi σ 116 p) e) e 10 0 []).1 = true → ∃ σ', F_X12_goesText a1 σ = (1, σ') ∧ ClsM σ' f (ptext (txn (fun p => gi σ 116 p) e) e 10 0 []).2.2 ∧ (gi σ' 117 f).toInt = ((ptext (txn (fun p => gi σ 116 p) e) e 10 0 []).2.2.length : Int) ∧ FXx f σ σ')
    ∧ ((ptext (txn (fun p => gi σ 116 p) e) e 10 0 []).1 = false → ∃ σ', F_X12_goesText a1 σ = (0, σ') ∧ (gi σ' 74 14).toInt = ((ptext (txn (fun p => gi σ 116 p) e) e 10 0 []).2.1 : Int) ∧ FXx f σ σ') := by
  have hx := NXo_txn (g := fun p => gi σ 116 p) h100 hb
  obtain ⟨nx, en⟩ : ∃ nx, nx = txn (fun p => gi σ 116 p) e := ⟨_, rfl⟩
  rw [← en] at hx ⊢
  have m1 : ((100 : Int32) * a1).toInt = 100 * a1.toInt := i_mull rfl (by omega) (by omega)
  obtain ⟨σ2, e2⟩ : ∃ σ2, σ2 = si (si σ 74 14 (0 : Int32)) 74 24 ((100 : Int32) * a1) := ⟨_, rfl⟩
  have E : F_X12_goesText a1 σ = LF_X12_goesText 20 a1 (0 : Int32) σ2 := by
    unfold F_X12_goesText
    rw [fl_e, fl_e, ← e2]
  have f2 : FXx f σ σ2 := by
    rw [e2]
    exact FX_si (FX_si FX_rf (Or.inr (Or.inl ⟨rfl, by decide⟩))) (Or.inr (Or.inl ⟨rfl, by decide⟩))
  have r2 : RtM nx e (100 * f + (toksOf []).length) 0 σ2 := by
    rw [e2]
    refine ⟨?_, ?_, ?_, ?_, Nat.zero_le _, ?_⟩
    · rw [gi_si_ne (Or.inr (by decide)), gi_si_ne (Or.inr (by decide))]; exact he
    · intro q hq
      rw [gi_si_ne (Or.inl (by decide)), gi_si_ne (Or.inl (by decide)), en]
      unfold txn; rw [if_pos hq]
    · rw [gi_si_ne (Or.inr (by decide)), gi_si_eq]; rfl
    · rw [gi_si_eq, m1, h1]; show _ = ((100 * f + 0 : Nat) : Int); omega
    · show 100 * f + 0 ≤ 500 + 0; omega
  have g := textM (x1 := a1) hx h1 hf 9 0 [] σ2 (0 : Int32) 20 r2 (LTM_eq (fun j => by rw [e2, gi_si_ne (Or.inl (by decide)), gi_si_ne (Or.inl (by decide))]) hL) (fun i c hi => by rw [List.getElem?_nil] at hi; cases hi) rfl rfl (by decide)
  rw [E]
  refine ⟨fun h9 => ?_, fun h9 => ?_⟩
  · obtain ⟨σ', g1, g2, g3, g4⟩ := g.1 h9
    exact ⟨σ', g1, g2, g3, FXx_tr f2 g4⟩
  · obtain ⟨σ', g1, g2, g3⟩ := g.2 h9
    exact ⟨σ', g1, g2, FXx_tr f2 g3⟩
