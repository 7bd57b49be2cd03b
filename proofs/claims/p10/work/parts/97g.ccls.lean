/-! the class's clauses, its field -/
noncomputable abbrev Cls := Nat × Nat × List Tok
noncomputable def toksOf (cl : List Cls) : List Tok := (cl.map (fun c => c.2.2)).flatten
noncomputable def lastW (w d : Nat) (cl : List Cls) : Nat := cl.foldl (fun n c => if c.1 = w then c.2.1 else n) d
theorem toksOf_ap {cl : List Cls} {c : Cls} : toksOf (cl ++ [c]) = toksOf cl ++ c.2.2 := by
  unfold toksOf
  rw [List.map_append, List.flatten_append]
  simp only [List.map_cons, List.map_nil, List.flatten_cons, List.flatten_nil, List.append_nil]
theorem lastW_ap {w d : Nat} {cl : List Cls} {c : Cls} : lastW w d (cl ++ [c]) = if c.1 = w then c.2.1 else lastW w d cl := by
  unfold lastW
  rw [List.foldl_append]
  rfl
/-- the clauses cl stand in the rows of the field c0 -/
noncomputable abbrev FdR (σ : Sg) (c0 : Nat) (cl : List Cls) : Prop :=
  ((gi σ c0 8).toInt = (cl.length : Int)) ∧ (∀ i c, cl[i]? = some c → (gi σ (c0 + 2) i).toInt = (c.1 : Int) ∧ (gi σ (c0 + 3) i).toInt = (c.2.1 : Int) ∧ (gi σ (c0 + 4) i).toInt = ((toksOf (cl.take (i + 1))).length : Int))
noncomputable abbrev FdN (σ : Sg) (c0 : Nat) (cl : List Cls) : Prop :=
  ((gi σ c0 0).toInt = (lastW 2 2 cl : Int)) ∧ ((gi σ c0 1).toInt = (lastW 3 1 cl : Int)) ∧ ((gi σ c0 2).toInt = ((if lastW 4 60 cl < 1 then 1 else lastW 4 60 cl : Nat) : Int))
noncomputable def FXy (c0 : Nat) (σ σ' : Sg) : Prop := FX (fun id => id = c0 + 1 ∨ id = c0 + 2 ∨ id = c0 + 3 ∨ id = c0 + 4) (fun id k => id = c0 ∧ (k = 0 ∨ k = 1 ∨ k = 2 ∨ k = 4 ∨ k = 8 ∨ k = 11)) σ σ'
theorem FXy_rf {c0 : Nat} {σ : Sg} : FXy c0 σ σ := FX_rf
theorem FXy_tr {c0 : Nat} {σ σ1 σ2 : Sg} (f : FXy c0 σ σ1) (g : FXy c0 σ1 σ2) : FXy c0 σ σ2 := FX_tr f g (fun _ h => h) (fun _ _ h => Or.inr h)
theorem FXy_c {c0 : Nat} {σ σ1 : Sg} (f : FXc c0 σ σ1) : FXy c0 σ σ1 := FX_tr FX_rf f (fun _ h => Or.inl h) (fun _ _ h => Or.inr ⟨h.1, by have := h.2; omega⟩)
theorem FdR_c {c0 : Nat} {σ σ1 : Sg} {cl : List Cls} (f : FXc c0 σ σ1) (h : FdR σ c0 cl) : FdR σ1 c0 cl := by
  have e : ∀ id k, id ≠ c0 + 1 → ¬ (id = c0 ∧ (k = 4 ∨ k = 11)) → gi σ1 id k = gi σ id k := fun id k a b => FX_i f a b
  refine ⟨by rw [e c0 8 (by omega) (by omega)]; exact h.1, fun i c hc => ?_⟩
  rw [e (c0 + 2) i (by omega) (by omega), e (c0 + 3) i (by omega) (by omega), e (c0 + 4) i (by omega) (by omega)]
  exact h.2 i c hc
theorem FdN_c {c0 : Nat} {σ σ1 : Sg} {cl : List Cls} (f : FXc c0 σ σ1) (h : FdN σ c0 cl) : FdN σ1 c0 cl := by
  have e : ∀ id k, id ≠ c0 + 1 → ¬ (id = c0 ∧ (k = 4 ∨ k = 11)) → gi σ1 id k = gi σ id k := fun id k a b => FX_i f a b
  exact ⟨by rw [e c0 0 (by omega) (by omega)]; exact h.1, by rw [e c0 1 (by omega) (by omega)]; exact h.2.1, by rw [e c0 2 (by omega) (by omega)]; exact h.2.2⟩
theorem RdC_num {nx e c0 p L σ} {k : Nat} {v : Int32} (hc : 69 ≤ c0) (h : RdC nx e c0 p L σ) (hk : k ≤ 2) : RdC nx e c0 p L (si σ c0 k v) := by
  refine ⟨h.t, ?_, ?_, ?_, ⟨?_, ?_⟩, h.le, h.ll⟩
  · rw [gi_si_ne (Or.inr (by omega))]; exact h.en
  · intro q hq; rw [gi_si_ne (Or.inl (by omega))]; exact h.tx q hq
  · rw [gi_si_ne (Or.inr (by omega))]; exact h.at_
  · rw [gi_si_ne (Or.inr (by omega))]; exact h.cd.1
  · intro j t ht; rw [gi_si_ne (Or.inl (by omega))]; exact h.cd.2 j t ht
theorem FdR_num {c0 : Nat} {σ : Sg} {cl : List Cls} {k : Nat} {v : Int32} (h : FdR σ c0 cl) (hk : k ≤ 2) : FdR (si σ c0 k v) c0 cl := by
  refine ⟨by rw [gi_si_ne (Or.inr (by omega))]; exact h.1, fun i c hc => ?_⟩
  rw [gi_si_ne (Or.inl (by omega)), gi_si_ne (Or.inl (by omega)), gi_si_ne (Or.inl (by omega))]
  exact h.2 i c hc
theorem keepsR {nx e c0 p cl tk σ} (hc : 69 ≤ c0) (h : RdC nx e c0 p (toksOf cl ++ tk) σ) (hR : FdR σ c0 cl) (hl : cl.length < 10) {x1 x2 : Int32} {w n : Nat} (h1 : x1.toInt = (w : Int)) (h2 : x2.toInt = (n : Int)) (m : Nat) :
    RdC nx e c0 p (toksOf (cl ++ [(w, n, tk)])) (LF_X2_keeps c0 (m + 1) x1 x2 σ) ∧ FdR (LF_X2_keeps c0 (m + 1) x1 x2 σ) c0 (cl ++ [(w, n, tk)]) ∧ (∀ k, k ≤ 2 → gi (LF_X2_keeps c0 (m + 1) x1 x2 σ) c0 k = gi σ c0 k) ∧ FXy c0 σ (LF_X2_keeps c0 (m + 1) x1 x2 σ) := by
  have a := hR.1
  have z10 : (10 : Int32).toInt = 10 := rfl
  have q : ¬ (10 : Int32) ≤ gi σ c0 8 := fun h9 => by have := Int32.le_iff_toInt_le.mp h9; omega
  have ec := cl_eq (x := gi σ c0 8) (by omega)
  have ek : (gi σ c0 8).toNatClampNeg = cl.length := by omega
  have t1 : ((gi σ c0 8) + (1 : Int32)).toInt = (gi σ c0 8).toInt + 1 := i_add (y := (1 : Int32)) (by show (_ : Int) ≤ (gi σ c0 8).toInt + 1; omega) (by show (gi σ c0 8).toInt + 1 ≤ (_ : Int); omega)
  have n2 : ∀ (τ : Sg) (j k : Nat) (v : Int32), gi (si τ (c0 + 2) j v) c0 k = gi τ c0 k := fun τ j k v => gi_si_ne (Or.inl (by omega))
  have n3 : ∀ (τ : Sg) (j k : Nat) (v : Int32), gi (si τ (c0 + 3) j v) c0 k = gi τ c0 k := fun τ j k v => gi_si_ne (Or.inl (by omega))
  have n4 : ∀ (τ : Sg) (j k : Nat) (v : Int32), gi (si τ (c0 + 4) j v) c0 k = gi τ c0 k := fun τ j k v => gi_si_ne (Or.inl (by omega))
  have E : LF_X2_keeps c0 (m + 1) x1 x2 σ = si (si (si (si σ (c0 + 2) cl.length x1) (c0 + 3) cl.length x2) (c0 + 4) cl.length (gi σ c0 4)) c0 8 ((gi σ c0 8) + (1 : Int32)) := by
    show LB_X2_keeps_40 c0 (LF_X2_keeps c0 m) x1 x2 σ = _
    unfold LB_X2_keeps_40
    rw [if_neg q]
    simp only [fl_e, n2, n3, n4, ek]
  rw [E]
  obtain ⟨σ', e'⟩ : ∃ σ', σ' = si (si (si (si σ (c0 + 2) cl.length x1) (c0 + 3) cl.length x2) (c0 + 4) cl.length (gi σ c0 4)) c0 8 ((gi σ c0 8) + (1 : Int32)) := ⟨_, rfl⟩
  rw [← e']
  have hX : ∀ id k, id ≠ c0 + 2 → id ≠ c0 + 3 → id ≠ c0 + 4 → (id ≠ c0 ∨ k ≠ 8) → gi σ' id k = gi σ id k := by
    intro id k a1 a2 a3 a4
    rw [e', gi_si_ne a4, gi_si_ne (Or.inl a3), gi_si_ne (Or.inl a2), gi_si_ne (Or.inl a1)]
  have hX2 : ∀ k, gi σ' (c0 + 2) k = if k = cl.length then x1 else gi σ (c0 + 2) k := by
    intro k
    rw [e', gi_si_ne (Or.inl (by omega)), gi_si_ne (Or.inl (by omega)), gi_si_ne (Or.inl (by omega)), gi_si]
    simp only [true_and]
  have hX3 : ∀ k, gi σ' (c0 + 3) k = if k = cl.length then x2 else gi σ (c0 + 3) k := by
    intro k
    rw [e', gi_si_ne (Or.inl (by omega)), gi_si_ne (Or.inl (by omega)), gi_si, gi_si_ne (Or.inl (by omega))]
    simp only [true_and]
  have hX4 : ∀ k, gi σ' (c0 + 4) k = if k = cl.length then gi σ c0 4 else gi σ (c0 + 4) k := by
    intro k
    rw [e', gi_si_ne (Or.inl (by omega)), gi_si, gi_si_ne (Or.inl (by omega)), gi_si_ne (Or.inl (by omega))]
    simp only [true_and]
  have h8 : gi σ' c0 8 = (gi σ c0 8) + (1 : Int32) := by rw [e', gi_si_eq]
  have tok : toksOf (cl ++ [(w, n, tk)]) = toksOf cl ++ tk := toksOf_ap
  refine ⟨⟨?_, ?_, ?_, ?_, ⟨?_, ?_⟩, h.le, ?_⟩, ⟨?_, ?_⟩, ?_, ?_⟩
  · rw [e']; exact h.t
  · rw [hX c0 10 (by omega) (by omega) (by omega) (by omega)]; exact h.en
  · intro q hq; rw [hX 50 q (by omega) (by omega) (by omega) (by omega)]; exact h.tx q hq
  · rw [hX c0 11 (by omega) (by omega) (by omega) (by omega)]; exact h.at_
  · rw [hX c0 4 (by omega) (by omega) (by omega) (by omega), tok]; exact h.cd.1
  · intro j t ht; rw [hX (c0 + 1) j (by omega) (by omega) (by omega) (by omega)]; rw [tok] at ht; exact h.cd.2 j t ht
  · rw [tok]; exact h.ll
  · rw [h8, t1, List.length_append]; show _ = ((cl.length + 1 : Nat) : Int); omega
  · intro i c hi
    rw [hX2, hX3, hX4]
    by_cases hj : i = cl.length
    · rw [if_pos hj, if_pos hj, if_pos hj]
      rw [hj, List.getElem?_append_right (Nat.le_refl _), Nat.sub_self] at hi
      have hi : some (w, n, tk) = some c := hi
      cases hi
      refine ⟨h1, h2, ?_⟩
      rw [hj, List.take_of_length_le (by rw [List.length_append]; exact Nat.le_refl _), tok]
      exact h.cd.1
    · rw [if_neg hj, if_neg hj, if_neg hj]
      have hj2 : i < cl.length := by
        have := (List.getElem?_eq_some_iff.mp hi).1
        rw [List.length_append] at this
        have : i < cl.length + 1 := this
        omega
      rw [List.getElem?_append_left hj2] at hi
      rw [List.take_append_of_le_length (by omega)]
      exact hR.2 i c hi
  · intro k hk; exact hX c0 k (by omega) (by omega) (by omega) (by omega)
  · rw [e']
    exact FX_si (FX_si (FX_si (FX_si FX_rf (Or.inl (Or.inr (Or.inl rfl)))) (Or.inl (Or.inr (Or.inr (Or.inl rfl))))) (Or.inl (Or.inr (Or.inr (Or.inr rfl))))) (Or.inr ⟨rfl, by decide⟩)
theorem keepsC {nx e c0 p cl tk σ} (hc : 69 ≤ c0) (h : RdC nx e c0 p (toksOf cl ++ tk) σ) (hR : FdR σ c0 cl) (hN : FdN σ c0 cl) (hl : cl.length < 10) {x1 x2 : Int32} {w n : Nat} (hw : w ≤ 4) (h1 : x1.toInt = (w : Int)) (h2 : x2.toInt = (n : Int)) :
    RdC nx e c0 p (toksOf (cl ++ [(w, n, tk)])) (F_X2_keeps c0 x1 x2 σ) ∧ FdR (F_X2_keeps c0 x1 x2 σ) c0 (cl ++ [(w, n, tk)]) ∧ FdN (F_X2_keeps c0 x1 x2 σ) c0 (cl ++ [(w, n, tk)]) ∧ FXy c0 σ (F_X2_keeps c0 x1 x2 σ) := by
  have z2 : (2 : Int32).toInt = 2 := rfl
  have z3 : (3 : Int32).toInt = 3 := rfl
  obtain ⟨b0, b1, b2⟩ := hN
  unfold F_X2_keeps
  by_cases w2 : w = 2
  · rw [if_pos (Int32.toInt_inj.mp (by omega)), fl_e]
    obtain ⟨k1, k2, k3, k4⟩ := keepsR hc (RdC_num (v := x2) hc h (Nat.zero_le 2)) (FdR_num hR (Nat.zero_le 2)) hl h1 h2 8
    refine ⟨k1, k2, ⟨?_, ?_, ?_⟩, FXy_tr (FX_si FX_rf (Or.inr ⟨rfl, Or.inl rfl⟩)) k4⟩
    · rw [k3 0 (by decide), gi_si_eq, lastW_ap]
      show x2.toInt = ((if w = 2 then n else _ : Nat) : Int)
      rw [if_pos w2]; exact h2
    · rw [k3 1 (by decide), gi_si_ne (Or.inr (by decide)), lastW_ap]
      show _ = ((if w = 3 then n else _ : Nat) : Int)
      rw [if_neg (by omega)]; exact b1
    · rw [k3 2 (by decide), gi_si_ne (Or.inr (by decide)), lastW_ap]
      rw [if_neg (show ¬ (w, n, tk).1 = 4 from by show ¬ w = 4; omega)]; exact b2
  · rw [if_neg (fun h9 => w2 (by rw [h9] at h1; omega))]
    by_cases w3 : w = 3
    · rw [if_pos (Int32.toInt_inj.mp (by omega)), fl_e]
      obtain ⟨k1, k2, k3, k4⟩ := keepsR hc (RdC_num (v := x2) (k := 1) hc h (by decide)) (FdR_num hR (by decide)) hl h1 h2 8
      refine ⟨k1, k2, ⟨?_, ?_, ?_⟩, FXy_tr (FX_si FX_rf (Or.inr ⟨rfl, Or.inr (Or.inl rfl)⟩)) k4⟩
      · rw [k3 0 (by decide), gi_si_ne (Or.inr (by decide)), lastW_ap]
        show _ = ((if w = 2 then n else _ : Nat) : Int)
        rw [if_neg w2]; exact b0
      · rw [k3 1 (by decide), gi_si_eq, lastW_ap]
        show x2.toInt = ((if w = 3 then n else _ : Nat) : Int)
        rw [if_pos w3]; exact h2
      · rw [k3 2 (by decide), gi_si_ne (Or.inr (by decide)), lastW_ap]
        rw [if_neg (show ¬ (w, n, tk).1 = 4 from by show ¬ w = 4; omega)]; exact b2
    · rw [if_neg (fun h9 => w3 (by rw [h9] at h1; omega))]
      by_cases w1 : w ≤ 3
      · rw [if_pos (Int32.le_iff_toInt_le.mpr (by omega))]
        obtain ⟨k1, k2, k3, k4⟩ := keepsR hc h hR hl h1 h2 8
        refine ⟨k1, k2, ⟨?_, ?_, ?_⟩, k4⟩
        · rw [k3 0 (by decide), lastW_ap]
          show _ = ((if w = 2 then n else _ : Nat) : Int)
          rw [if_neg w2]; exact b0
        · rw [k3 1 (by decide), lastW_ap]
          show _ = ((if w = 3 then n else _ : Nat) : Int)
          rw [if_neg w3]; exact b1
        · rw [k3 2 (by decide), lastW_ap]
          rw [if_neg (show ¬ (w, n, tk).1 = 4 from by show ¬ w = 4; omega)]; exact b2
      · rw [if_neg (fun h9 => by have := Int32.le_iff_toInt_le.mp h9; omega), fl_e, fl_e]
        obtain ⟨k1, k2, k3, k4⟩ := keepsR hc (RdC_num (v := jmax (1 : Int32) x2) (k := 2) hc h (by decide)) (FdR_num hR (by decide)) hl h1 h2 8
        refine ⟨k1, k2, ⟨?_, ?_, ?_⟩, FXy_tr (FX_si FX_rf (Or.inr ⟨rfl, Or.inr (Or.inr (Or.inl rfl))⟩)) k4⟩
        · rw [k3 0 (by decide), gi_si_ne (Or.inr (by decide)), lastW_ap]
          show _ = ((if w = 2 then n else _ : Nat) : Int)
          rw [if_neg w2]; exact b0
        · rw [k3 1 (by decide), gi_si_ne (Or.inr (by decide)), lastW_ap]
          show _ = ((if w = 3 then n else _ : Nat) : Int)
          rw [if_neg w3]; exact b1
        · rw [k3 2 (by decide), gi_si_eq, lastW_ap, jmax_f]
          rw [if_pos (show (w, n, tk).1 = 4 from by show w = 4; omega)]
          have z1 : (1 : Int32).toInt = 1 := rfl
          show _ = ((if n < 1 then 1 else n : Nat) : Int)
          by_cases hn : n < 1
          · rw [if_pos hn, if_neg (by omega)]; exact z1
          · rw [if_neg hn]
            by_cases hn1 : n = 1
            · rw [if_neg (by omega), z1, hn1]; rfl
            · rw [if_pos (by omega)]; exact h2
theorem pcl_n {nx p} (h : wrd (nx p) = none) : pclause nx p = (false, p, 0, 0, []) := by unfold pclause; rw [h]
theorem pcl_w {nx p w} (h : wrd (nx p) = some w) (hm : (pmatch nx (wtx w) p).1 = false) : pclause nx p = (false, (pmatch nx (wtx w) p).2, 0, 0, []) := by
  unfold pclause; rw [h]
  show (if _ then _ else _) = _
  rw [if_neg (by rw [hm]; decide)]
theorem pcl_d {nx p w} (h : wrd (nx p) = some w) (hm : (pmatch nx (wtx w) p).1 = true) (hd : (pnum nx (pmatch nx (wtx w) p).2).1 = false) : pclause nx p = (false, (pnum nx (pmatch nx (wtx w) p).2).2.1, 0, 0, []) := by
  unfold pclause; rw [h]
  show (if _ then _ else _) = _
  rw [if_pos hm, if_neg (by rw [hd]; decide)]
theorem pcl_2 {nx p w} (h : wrd (nx p) = some w) (hm : (pmatch nx (wtx w) p).1 = true) (hd : (pnum nx (pmatch nx (wtx w) p).2).1 = true) (hw : 2 ≤ w) : pclause nx p = (true, (pnum nx (pmatch nx (wtx w) p).2).2.1, w, (pnum nx (pmatch nx (wtx w) p).2).2.2, []) := by
  unfold pclause; rw [h]
  show (if _ then _ else _) = _
  rw [if_pos hm, if_pos hd, if_pos hw]
theorem pcl_b {nx p w} (h : wrd (nx p) = some w) (hm : (pmatch nx (wtx w) p).1 = true) (hd : (pnum nx (pmatch nx (wtx w) p).2).1 = true) (hw : ¬ 2 ≤ w) (hb : ¬ nx (pnum nx (pmatch nx (wtx w) p).2).2.1 = 32) : pclause nx p = (false, (pnum nx (pmatch nx (wtx w) p).2).2.1, 0, 0, []) := by
  unfold pclause; rw [h]
  show (if _ then _ else _) = _
  rw [if_pos hm, if_pos hd, if_neg hw, if_neg hb]
theorem pcl_e {nx p w} (h : wrd (nx p) = some w) (hm : (pmatch nx (wtx w) p).1 = true) (hd : (pnum nx (pmatch nx (wtx w) p).2).1 = true) (hw : ¬ 2 ≤ w) (hb : nx (pnum nx (pmatch nx (wtx w) p).2).2.1 = 32) : pclause nx p = ((pE nx ((pnum nx (pmatch nx (wtx w) p).2).2.1 + 1)).1, (pE nx ((pnum nx (pmatch nx (wtx w) p).2).2.1 + 1)).2.1, w, (pnum nx (pmatch nx (wtx w) p).2).2.2, (pE nx ((pnum nx (pmatch nx (wtx w) p).2).2.1 + 1)).2.2) := by
  unfold pclause; rw [h]
  show (if _ then _ else _) = _
  rw [if_pos hm, if_pos hd, if_neg hw, if_pos hb]
theorem wrd_lt {c : Int} {w : Nat} (h : wrd c = some w) : w ≤ 4 ∧ 0 ≤ c := by
  unfold wrd at h
  repeat' split at h
  all_goals first | (cases h; exact ⟨by decide, by omega⟩) | cases h
theorem wtx_tab : ∀ w, w < 5 → slen (w + 1) = (wtx w).length ∧ (wtx w).length ≤ 5 ∧ ∀ j, j < 5 → j < (wtx w).length → (sby (w + 1) j).toInt = (wtx w).getD j 0 ∧ 0 ≤ (wtx w).getD j 0 := by decide
theorem wordEq {c0 : Nat} {w : Nat} {σ : Sg} (h : w ≤ 4) : F_X2_readsWord c0 (oI (some w)) σ = LF_X2_readsWord c0 9 (w + 1) (0 : Int32) σ := by
  have o := oI_some (f := w) (by omega)
  unfold F_X2_readsWord F_X2_wordOf
  rw [o]
  rcases (show w = 0 ∨ w = 1 ∨ w = 2 ∨ w = 3 ∨ w = 4 by omega) with rfl | rfl | rfl | rfl | rfl
  · rw [if_pos (by decide), fb_e]
  · rw [if_neg (by decide), if_pos (by decide), fb_e]
  · rw [if_neg (by decide), if_neg (by decide), if_pos (by decide), fb_e]
  · rw [if_neg (by decide), if_neg (by decide), if_neg (by decide), if_pos (by decide), fb_e]
  · rw [if_neg (by decide), if_neg (by decide), if_neg (by decide), if_neg (by decide), fb_e]
theorem clauseC {nx e c0 p cl σ} (hx : NXo nx e) (hc : 69 ≤ c0) (h : RdC nx e c0 p (toksOf cl) σ) (hR : FdR σ c0 cl) (hN : FdN σ c0 cl) (hl : cl.length < 10) :
    ((pclause nx p).1 = true → ∃ σ', F_X2_readsClause c0 σ = (1, σ') ∧ RdC nx e c0 (pclause nx p).2.1 (toksOf (cl ++ [(pclause nx p).2.2])) σ' ∧ FdR σ' c0 (cl ++ [(pclause nx p).2.2]) ∧ FdN σ' c0 (cl ++ [(pclause nx p).2.2]) ∧ FXy c0 σ σ')
    ∧ ((pclause nx p).1 = false → ∃ σ', F_X2_readsClause c0 σ = (0, σ') ∧ (gi σ' c0 11).toInt = ((pclause nx p).2.1 : Int) ∧ FXy c0 σ σ') := by
  have g1 := amongC (a1 := 0) (g := wrd) hx h rfl (fun n hn => (ixtab n hn).2.2.2.2)
  have z0 : (0 : Int32).toInt = 0 := rfl
  have z1 : (1 : Int32).toInt = 1 := rfl
  unfold F_X2_readsClause
  rw [g1, fb_e]
  cases e1 : wrd (nx p) with
  | none =>
    rw [pcl_n e1, if_pos (show oI none < 0 by decide)]
    exact ⟨fun h9 => (by cases h9), fun _ => ⟨σ, rfl, h.at_, FXy_rf⟩⟩
  | some w =>
    obtain ⟨w4, -⟩ := wrd_lt e1
    have ow := oI_some (f := w) (by omega)
    obtain ⟨tab1, tab2, tab3⟩ := wtx_tab w (by omega)
    rw [if_neg (show ¬ oI (some w) < 0 from fun h9 => by have := Int32.lt_iff_toInt_lt.mp h9; omega), wordEq w4]
    have k := wordLC hx hc (x2 := w + 1) (by omega) (wtx w) 9 p σ 0 0 h rfl (by omega) (by omega) (fun j c hj => by
      have hj2 := (List.getElem?_eq_some_iff.mp hj).1
      have t := tab3 j (by omega) hj2
      rw [List.getD_eq_getElem?_getD, hj] at t
      rw [Nat.zero_add]
      exact t)
    by_cases hm : (pmatch nx (wtx w) p).1 = true
    · obtain ⟨σ4, m1, m2, m3⟩ := k.1 hm
      rw [m1, fb_e, if_neg (show ¬ (1 : Int32) = 0 by decide)]
      have g := numC hx hc m2
      by_cases hd : (pnum nx (pmatch nx (wtx w) p).2).1 = true
      · obtain ⟨r, σ7, d1, d2, d3, d4, d5, d6⟩ := g.1 hd
        have f7 : FXc c0 σ σ7 := FXc_tr m3 d5
        rw [d1, fb_e, if_pos (show (0 : Int32) ≤ r from Int32.le_iff_toInt_le.mpr (by omega))]
        by_cases hw : 2 ≤ w
        · have k2 := keepsC hc (tk := []) (by rw [List.append_nil]; exact d4) (FdR_c f7 hR) (FdN_c f7 hN) hl w4 ow d2
          rw [if_pos (show (1 : Int32) < oI (some w) from Int32.lt_iff_toInt_lt.mpr (by omega)), fl_e, pcl_2 e1 hm hd hw]
          exact ⟨fun _ => ⟨_, rfl, k2.1, k2.2.1, k2.2.2.1, FXy_tr (FXy_c f7) k2.2.2.2⟩, fun h9 => by cases h9⟩
        · rw [if_neg (show ¬ (1 : Int32) < oI (some w) from fun h9 => by have := Int32.lt_iff_toInt_lt.mp h9; omega)]
          by_cases hb : nx (pnum nx (pmatch nx (wtx w) p).2).2.1 = 32
          · obtain ⟨t1, t2, t3⟩ := takesC_t hx hc d4 (op := 32) rfl (by decide) hb
            rw [t1, fb_e, if_neg (show ¬ (1 : Int32) = 0 by decide)]
            have r9 := either_r0C hx hc _ _ _ t2
            rw [show peither nx (ppart nx (ptest nx) 4) ((pnum nx (pmatch nx (wtx w) p).2).2.1 + 1) = pE nx ((pnum nx (pmatch nx (wtx w) p).2).2.1 + 1) from rfl] at r9
            rw [pcl_e e1 hm hd hw hb]
            obtain ⟨y, hy⟩ : ∃ y, y = F_X2_readsEither_r0 c0 (0 : Int32) (si σ7 c0 11 ((gi σ7 c0 11) + (1 : Int32))) := ⟨_, rfl⟩
            rw [← hy] at r9 ⊢
            obtain ⟨y1, y2⟩ := y
            rw [fb_e]
            by_cases hE : (pE nx ((pnum nx (pmatch nx (wtx w) p).2).2.1 + 1)).1 = true
            · obtain ⟨u1, u2, u3, u4⟩ := r9.1 hE
              replace u1 : y1 = 1 := u1
              have f15 : FXc c0 σ y2 := FXc_tr f7 (FXc_tr t3 r9.2.2)
              have k2 := keepsC hc u2 (FdR_c f15 hR) (FdN_c f15 hN) hl w4 ow d2
              rw [if_neg (by rw [u1]; decide), fl_e]
              exact ⟨fun _ => ⟨_, rfl, k2.1, k2.2.1, k2.2.2.1, FXy_tr (FXy_c f15) k2.2.2.2⟩, fun h9 => by
                have h9 : (pE nx ((pnum nx (pmatch nx (wtx w) p).2).2.1 + 1)).1 = false := h9
                rw [hE] at h9; cases h9⟩
            · have hE' : (pE nx ((pnum nx (pmatch nx (wtx w) p).2).2.1 + 1)).1 = false := Bool.eq_false_iff.mpr hE
              obtain ⟨u1, u2⟩ := r9.2.1 hE'
              replace u1 : y1 = 0 := u1
              rw [if_pos u1]
              exact ⟨fun h9 => absurd h9 hE, fun _ => ⟨y2, rfl, u2, FXy_c (FXc_tr f7 (FXc_tr t3 r9.2.2))⟩⟩
          · rw [takesC_f hx d4 (op := 32) rfl hb, fb_e, if_pos rfl, pcl_b e1 hm hd hw hb]
            exact ⟨fun h9 => (by cases h9), fun _ => ⟨σ7, rfl, d4.at_, FXy_c f7⟩⟩
      · have hd' : (pnum nx (pmatch nx (wtx w) p).2).1 = false := Bool.eq_false_iff.mpr hd
        obtain ⟨r1, r2⟩ := g.2 hd'
        rw [r1, fb_e, if_neg (show ¬ (0 : Int32) ≤ -1 by decide), pcl_d e1 hm hd']
        refine ⟨fun h9 => (by cases h9), fun _ => ⟨σ4, rfl, ?_, FXy_c m3⟩⟩
        show (gi σ4 c0 11).toInt = ((pnum nx (pmatch nx (wtx w) p).2).2.1 : Int)
        rw [r2]; exact m2.at_
    · have hm' : (pmatch nx (wtx w) p).1 = false := Bool.eq_false_iff.mpr hm
      obtain ⟨σ4, m1, m2, m3⟩ := k.2 hm'
      rw [m1, fb_e, if_pos rfl, pcl_w e1 hm']
      exact ⟨fun h9 => (by cases h9), fun _ => ⟨σ4, rfl, m2, FXy_c m3⟩⟩
