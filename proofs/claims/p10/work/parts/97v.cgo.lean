/-! a minute in the class: whoever is at a place goes on -/
theorem row_u {σ σ' : Sg} {a n m : Nat} {g : Nat → Int} {x : Int} (h : ∀ j, j < n → (gi σ a j).toInt = g j) (hm : (gi σ' a m).toInt = x) (ho : ∀ j, j ≠ m → gi σ' a j = gi σ a j) : ∀ j, j < n → (gi σ' a j).toInt = upi g m x j := by
  intro j hj
  by_cases e : j = m
  · subst e; rw [upi_e]; exact hm
  · rw [upi_n e, ho j e]; exact h j hj
theorem row_k {σ σ' : Sg} {a n : Nat} {g : Nat → Int} (h : ∀ j, j < n → (gi σ a j).toInt = g j) (ho : ∀ j, gi σ' a j = gi σ a j) : ∀ j, j < n → (gi σ' a j).toInt = g j := fun j hj => by rw [ho]; exact h j hj
/-- the same numbers again at one place -/
theorem row_s {σ σ' : Sg} {a n m : Nat} {g : Nat → Int} (h : ∀ j, j < n → (gi σ a j).toInt = g j) (hm : (gi σ' a m).toInt = (gi σ a m).toInt) (ho : ∀ j, j ≠ m → gi σ' a j = gi σ a j) : ∀ j, j < n → (gi σ' a j).toInt = g j := fun j hj => by
  by_cases e : j = m
  · subst e; rw [hm]; exact h j hj
  · rw [ho j e]; exact h j hj
theorem jmx0 {x : Int32} {a : Int} (h : x.toInt = a) : (jmax (0 : Int32) x).toInt = pos0 a := by
  rw [jmax_f, h]
  unfold pos0
  show (if (0 : Int) < a then a else 0) = _
  split <;> split <;> omega
theorem jmnI {x y : Int32} {a b : Int} (h : x.toInt = a) (g : y.toInt = b) : (jmin x y).toInt = mnI a b := by
  rw [jmin_f, h, g]; rfl
theorem lineC {c0 n p : Nat} {S : Stc} {σ : Sg} (sb : SBd n S) (hs : CS c0 n S σ) (hp : p < S_r S) : (gi σ (c0 + 2) p).toNatClampNeg = S_ln S p := by
  have l := hs.2.2.1 p hp
  have := cl_eq (x := gi σ (c0 + 2) p) (by omega)
  omega
theorem roomC {c0 n p : Nat} {K s : Int} {S : Stc} {D : Dyn} {σ : Sg} {x : Int32} (sb : SBd n S) (db : DBd n K D) (hs : CS c0 n S σ) (hd : CDy c0 n D σ) (hx : x.toInt = (p : Int)) (hp : p < S_r S) (hst : (gi σ (c0 + 14) p).toInt = s) (sb2 : 0 ≤ s ∧ s ≤ 1007) :
    ∃ r, F_X1_roomAt c0 x σ = (r, σ) ∧ r.toInt = aFar S s D p := by
  have ex := cl_eq (x := x) (by omega)
  have ep : x.toNatClampNeg = p := by omega
  obtain ⟨m, em⟩ : ∃ m, m = S_ln S p := ⟨_, rfl⟩
  have hm : m < n := by rw [em]; exact sb.2.2.1 p hp
  have ln := lineC sb hs hp
  have n6 := sb.1
  have a0 := hd.2.1 m hm
  obtain ⟨u1, -⟩ := db.2 m hm
  unfold F_X1_roomAt
  rw [ep, fl_e, ln, ← em]
  have sm : (gi σ (c0 + 3) m + gi σ (c0 + 14) p).toInt = D_at D m + s := by rw [i_add (by omega) (by omega), a0, hst]
  have v5 := jmnI (y := (9999 : Int32)) (b := 9999) sm rfl
  have fin : ∀ (v : Int32) (a : Int), v.toInt = a → -1000 ≤ a ∧ a ≤ 9999 → ∃ r, LF_X1_roomAt c0 9 (gi σ (c0 + 2) p) v σ = (r, σ) ∧ r.toInt = pos0 (a - D_at D m) := by
    intro v a hv ha
    show ∃ r, LB_X1_roomAt_54 c0 (LF_X1_roomAt c0 8) (gi σ (c0 + 2) p) v σ = (r, σ) ∧ _
    unfold LB_X1_roomAt_54
    rw [ln, ← em, fl_e]
    exact ⟨_, rfl, jmx0 (by rw [i_sub (by omega) (by omega), hv, a0])⟩
  have mb := @mnI_b (D_at D m + s) 9999
  rw [fl_e]
  unfold aFar
  rw [← em]
  by_cases q : p = 0
  · rw [if_pos (i_le (show _ ≤ (0 : Int) by omega)), if_pos q]
    exact fin _ _ v5 (by omega)
  · obtain ⟨g, hg, gt⟩ := gapC hs
    have gb := sb.2.2.2.2.2.1
    have hp1 : p - 1 < S_r S := by omega
    have x1 : (x - (1 : Int32)).toInt = x.toInt - 1 := i_pred (by omega)
    have ex1 := cl_eq (x := x - (1 : Int32)) (by omega)
    have m1 := sb.2.2.1 _ hp1
    have a1 := hd.2.1 _ m1
    have b1 := (db.2 _ m1).1
    rw [if_neg (i_nle (show (0 : Int) < _ by omega)), if_neg q, hg, fb_e, show (x - (1 : Int32)).toNatClampNeg = p - 1 from by omega, lineC sb hs hp1, fl_e]
    have sg : (gi σ (c0 + 3) (S_ln S (p - 1)) - g).toInt = D_at D (S_ln S (p - 1)) - S_gp S := by rw [i_sub (by omega) (by omega), a1, gt]
    have mb2 := @mnI_b (mnI (D_at D m + s) 9999) (D_at D (S_ln S (p - 1)) - S_gp S)
    exact fin _ _ (jmnI v5 sg) (by omega)
set_option maxHeartbeats 4000000 in
theorem goC {c0 n p : Nat} {K s : Int} {S : Stc} {D : Dyn} {σ : Sg} {x1 x2 : Int32} (hc : c0 ≤ 33) (sb : SBd n S) (db : DBd n K D) (hs : CS c0 n S σ) (hd : CDy c0 n D σ) (hx : x2.toInt = (p : Int)) (hp : p < S_r S) (hst : (gi σ (c0 + 14) p).toInt = s) (sb2 : 0 ≤ s ∧ s ≤ 1007) (k : Nat) :
    ∃ σ', LF_X1_goesMinute c0 (k + 2) 1 x1 x2 0 0 σ = LF_X1_goesMinute c0 k 1 (if aHd S s D p = true then x1 ||| ((1 : Int32) <<< ((nI (S_ln S p)) &&& 31)) else x1) (x2 + 1) 0 0 σ' ∧ CDy c0 n (aGo S s D p) σ' ∧ FXn c0 n σ σ' ∧ ∀ q, gi σ' (c0 + 14) q = gi σ (c0 + 14) q := by
  have ex := cl_eq (x := x2) (by omega)
  have ep : x2.toNatClampNeg = p := by omega
  obtain ⟨m, em⟩ : ∃ m, m = S_ln S p := ⟨_, rfl⟩
  have hm : m < n := by rw [em]; exact sb.2.2.1 p hp
  have n6 := sb.1
  have ln := lineC sb hs hp
  have li := hs.2.2.1 p hp
  have lI : gi σ (c0 + 2) p = nI m := by rw [em, ← ln]; exact nI_ofI (by omega)
  obtain ⟨u1, u2, u3, u4⟩ := db.2 m hm
  have h3 := hs.2.1
  obtain ⟨d1, d2, d3, d4, d5⟩ := hd
  have a2 := d2 m hm
  have a3 := d3 m hm
  have a4 := d4 m hm
  have a5 := d5 m hm
  have lm : (nI m).toNatClampNeg = m := by rw [← lI, ln, em]
  have tb := sb.2.2.2.2.2.2.1
  show ∃ σ', LB_X1_goesMinute_31 c0 (LF_X1_goesMinute c0 (k + 1)) x1 x2 σ = _ ∧ _
  unfold LB_X1_goesMinute_31
  rw [if_neg (i_nle (show x2.toInt < _ by omega)), ep, fl_e, lI, lm]
  unfold aHd aGo
  rw [← em]
  by_cases c : 0 < D_st D m
  · rw [if_neg (i_nle (show (0 : Int) < _ by omega)), if_pos c, if_pos c, if_neg (by decide), fl_e]
    show ∃ σ', LB_X1_goesMinute_95 c0 (LF_X1_goesMinute c0 k) x1 x2 (nI m) (0 : Int32) _ = _ ∧ _
    unfold LB_X1_goesMinute_95
    rw [lm, fl_e, if_pos (show (0 : Int32) ≤ 0 by decide)]
    unfold F_X1_wears
    rw [if_pos rfl, lm]
    simp only [fl_e]
    obtain ⟨σa, ea⟩ : ∃ σa, σa = si σ (c0 + 6) m (gi σ (c0 + 6) m - (1 : Int32)) := ⟨_, rfl⟩
    rw [← ea]
    obtain ⟨σb, eb⟩ : ∃ σb, σb = si σa (c0 + 3) m (gi σa (c0 + 3) m + (0 : Int32)) := ⟨_, rfl⟩
    rw [← eb]
    obtain ⟨σd, ed⟩ : ∃ σd, σd = si σb (c0 + 5) m (jmax (0 : Int32) (gi σb (c0 + 5) m - (2 : Int32))) := ⟨_, rfl⟩
    rw [← ed]
    have g3a : gi σa (c0 + 3) m = gi σ (c0 + 3) m := by rw [ea, gi_si_ne (Or.inl (by omega))]
    have g5b : gi σb (c0 + 5) m = gi σ (c0 + 5) m := by rw [eb, gi_si_ne (Or.inl (by omega)), ea, gi_si_ne (Or.inl (by omega))]
    refine ⟨σd, rfl, ⟨?_, ?_, ?_, ?_, ?_⟩, ?_, fun q => ?_⟩
    · rw [ed, gi_si_ne (Or.inl (by omega)), eb, gi_si_ne (Or.inl (by omega)), ea, gi_si_ne (Or.inl (by omega))]; exact d1
    · refine row_s d2 (m := m) ?_ (fun j hj => ?_)
      · rw [ed, gi_si_ne (Or.inl (by omega)), eb, gi_si_eq, g3a, i_add (y := (0 : Int32)) (by show (_ : Int) ≤ _ + 0; omega) (by show _ + 0 ≤ (_ : Int); omega)]; show _ + (0 : Int) = _; omega
      · rw [ed, gi_si_ne (Or.inl (by omega)), eb, gi_si_ne (Or.inr hj), ea, gi_si_ne (Or.inl (by omega))]
    · exact row_k d3 (fun j => by rw [ed, gi_si_ne (Or.inl (by omega)), eb, gi_si_ne (Or.inl (by omega)), ea, gi_si_ne (Or.inl (by omega))])
    · refine row_u d4 ?_ (fun j hj => ?_)
      · rw [ed, gi_si_eq, g5b]; exact jmx0 (by rw [i_sub (y := (2 : Int32)) (by show (_ : Int) ≤ _ - 2; omega) (by show _ - 2 ≤ (_ : Int); omega), a4]; rfl)
      · rw [ed, gi_si_ne (Or.inr hj), eb, gi_si_ne (Or.inl (by omega)), ea, gi_si_ne (Or.inl (by omega))]
    · refine row_u d5 ?_ (fun j hj => ?_)
      · rw [ed, gi_si_ne (Or.inl (by omega)), eb, gi_si_ne (Or.inl (by omega)), ea, gi_si_eq, i_pred (by omega), a5]
      · rw [ed, gi_si_ne (Or.inl (by omega)), eb, gi_si_ne (Or.inl (by omega)), ea, gi_si_ne (Or.inr hj)]
    · rw [ed, eb, ea]
      exact FXn_si (FXn_si (FXn_si FXn_rf (by omega)) (by omega)) (by omega)
    · rw [ed, gi_si_ne (Or.inl (by omega)), eb, gi_si_ne (Or.inl (by omega)), ea, gi_si_ne (Or.inl (by omega))]
  · obtain ⟨far, r1, r2⟩ := roomC sb db hs ⟨d1, d2, d3, d4, d5⟩ hx hp hst sb2
    have fb9 := aFar_b (s := s) sb db hp
    rw [← em] at fb9
    rw [if_pos (i_le (show _ ≤ (0 : Int) by omega)), if_neg c, if_neg c, r1, fb_e]
    have two : (if gi σ (c0 + 14) p ≤ far then LF_X1_goesMinute c0 (k + 1) 2 x1 x2 (nI m) far σ else fl (x1 ||| ((1 : Int32) <<< ((nI m) &&& 31))) (fun v11 => LF_X1_goesMinute c0 (k + 1) 2 v11 x2 (nI m) far σ)) = LB_X1_goesMinute_95 c0 (LF_X1_goesMinute c0 k) (if decide (aFar S s D p < s) = true then x1 ||| ((1 : Int32) <<< ((nI m) &&& 31)) else x1) x2 (nI m) far σ := by
      by_cases q : aFar S s D p < s
      · rw [if_neg (i_nle (by omega)), decide_eq_true q, if_pos rfl, fl_e]; rfl
      · rw [if_pos (i_le (by omega)), decide_eq_false q, if_neg (by decide)]; rfl
    rw [two]
    obtain ⟨y1, ey⟩ : ∃ y1, y1 = (if decide (aFar S s D p < s) = true then x1 ||| ((1 : Int32) <<< ((nI m) &&& 31)) else x1) := ⟨_, rfl⟩
    rw [← ey]
    unfold LB_X1_goesMinute_95
    rw [lm, fl_e]
    obtain ⟨σb, eb⟩ : ∃ σb, σb = si σ (c0 + 3) m (gi σ (c0 + 3) m + far) := ⟨_, rfl⟩
    rw [← eb]
    have g5b : gi σb (c0 + 5) m = gi σ (c0 + 5) m := by rw [eb, gi_si_ne (Or.inl (by omega))]
    have g4b : gi σb (c0 + 4) m = gi σ (c0 + 4) m := by rw [eb, gi_si_ne (Or.inl (by omega))]
    have at2 : (gi σ (c0 + 3) m + far).toInt = D_at D m + aFar S s D p := by rw [i_add (by omega) (by omega), a2, r2]
    by_cases w : 0 < aFar S s D p
    · rw [if_neg (i_nle (show (0 : Int) < _ by omega)), if_pos w]
      unfold F_X1_wears
      rw [if_neg (show ¬ (1 : Int32) = 0 by decide), lm, g4b]
      obtain ⟨s1, s2, s3, s4, s5, ⟨f, g10, hf, fa⟩, s7, s8⟩ := hs
      simp only [fl_e]
      obtain ⟨σd, ed⟩ : ∃ σd, σd = si σb (c0 + 4) m (jmax (0 : Int32) (gi σ (c0 + 4) m - (1 : Int32))) := ⟨_, rfl⟩
      rw [← ed]
      have gd : gr σd c0 10 = some f := by rw [ed, eb]; exact g10
      rw [gd]
      show ∃ σ', LF_X1_goesMinute c0 k 1 y1 (x2 + 1) 0 0 (si σd (c0 + 5) m (jmin (99 : Int32) (gi σd (c0 + 5) m + gi σd f 1))) = _ ∧ _
      have g5d : gi σd (c0 + 5) m = gi σ (c0 + 5) m := by rw [ed, gi_si_ne (Or.inl (by omega)), g5b]
      have gf : gi σd f 1 = gi σ f 1 := by rw [ed, gi_si_ne (Or.inl (by omega)), eb, gi_si_ne (Or.inl (by omega))]
      have gfv : (gi σ f 1).toInt = S_tr S := by rw [s7]; exact fa.2.1.2.1
      rw [g5d, gf]
      obtain ⟨σe, ee⟩ : ∃ σe, σe = si σd (c0 + 5) m (jmin (99 : Int32) (gi σ (c0 + 5) m + gi σ f 1)) := ⟨_, rfl⟩
      rw [← ee]
      refine ⟨σe, rfl, ⟨?_, ?_, ?_, ?_, ?_⟩, ?_, fun q => ?_⟩
      · rw [ee, gi_si_ne (Or.inl (by omega)), ed, gi_si_ne (Or.inl (by omega)), eb, gi_si_ne (Or.inl (by omega))]; exact d1
      · refine row_u d2 ?_ (fun j hj => ?_)
        · rw [ee, gi_si_ne (Or.inl (by omega)), ed, gi_si_ne (Or.inl (by omega)), eb, gi_si_eq]; exact at2
        · rw [ee, gi_si_ne (Or.inl (by omega)), ed, gi_si_ne (Or.inl (by omega)), eb, gi_si_ne (Or.inr hj)]
      · refine row_u d3 ?_ (fun j hj => ?_)
        · rw [ee, gi_si_ne (Or.inl (by omega)), ed, gi_si_eq]; exact jmx0 (by rw [i_sub (y := (1 : Int32)) (by show (_ : Int) ≤ _ - 1; omega) (by show _ - 1 ≤ (_ : Int); omega), a3]; rfl)
        · rw [ee, gi_si_ne (Or.inl (by omega)), ed, gi_si_ne (Or.inr hj), eb, gi_si_ne (Or.inl (by omega))]
      · refine row_u d4 ?_ (fun j hj => ?_)
        · rw [ee, gi_si_eq]; exact jmnI (a := 99) rfl (by rw [i_add (by omega) (by omega), a4, gfv])
        · rw [ee, gi_si_ne (Or.inr hj), ed, gi_si_ne (Or.inl (by omega)), eb, gi_si_ne (Or.inl (by omega))]
      · exact row_k d5 (fun j => by rw [ee, gi_si_ne (Or.inl (by omega)), ed, gi_si_ne (Or.inl (by omega)), eb, gi_si_ne (Or.inl (by omega))])
      · rw [ee, ed, eb]
        exact FXn_si (FXn_si (FXn_si FXn_rf (by omega)) (by omega)) (by omega)
      · rw [ee, gi_si_ne (Or.inl (by omega)), ed, gi_si_ne (Or.inl (by omega)), eb, gi_si_ne (Or.inl (by omega))]
    · rw [if_pos (i_le (show _ ≤ (0 : Int) by omega)), if_neg w]
      unfold F_X1_wears
      rw [if_pos rfl, lm, g5b]
      simp only [fl_e]
      obtain ⟨σd, ed⟩ : ∃ σd, σd = si σb (c0 + 5) m (jmax (0 : Int32) (gi σ (c0 + 5) m - (2 : Int32))) := ⟨_, rfl⟩
      rw [← ed]
      refine ⟨σd, rfl, ⟨?_, ?_, ?_, ?_, ?_⟩, ?_, fun q => ?_⟩
      · rw [ed, gi_si_ne (Or.inl (by omega)), eb, gi_si_ne (Or.inl (by omega))]; exact d1
      · refine row_s d2 (m := m) ?_ (fun j hj => ?_)
        · rw [ed, gi_si_ne (Or.inl (by omega)), eb, gi_si_eq, at2, a2]; omega
        · rw [ed, gi_si_ne (Or.inl (by omega)), eb, gi_si_ne (Or.inr hj)]
      · exact row_k d3 (fun j => by rw [ed, gi_si_ne (Or.inl (by omega)), eb, gi_si_ne (Or.inl (by omega))])
      · refine row_u d4 ?_ (fun j hj => ?_)
        · rw [ed, gi_si_eq]; exact jmx0 (by rw [i_sub (y := (2 : Int32)) (by show (_ : Int) ≤ _ - 2; omega) (by show _ - 2 ≤ (_ : Int); omega), a4]; rfl)
        · rw [ed, gi_si_ne (Or.inr hj), eb, gi_si_ne (Or.inl (by omega))]
      · exact row_k d5 (fun j => by rw [ed, gi_si_ne (Or.inl (by omega)), eb, gi_si_ne (Or.inl (by omega))])
      · rw [ed, eb]
        exact FXn_si (FXn_si FXn_rf (by omega)) (by omega)
      · rw [ed, gi_si_ne (Or.inl (by omega)), eb, gi_si_ne (Or.inl (by omega))]
theorem gosC {c0 n : Nat} {S : Stc} {st : Nat → Int} (hc : c0 ≤ 33) (sb : SBd n S) (hst : ∀ q, q < S_r S → 0 ≤ st q ∧ st q ≤ 1007) : ∀ (k p : Nat) (l : List Nat) (D : Dyn) (K : Int) (σ : Sg) (N : Nat) (x1 x2 : Int32), p + k = S_r S → 2 * k + 1 ≤ N → K ≤ 200000 → DBd n K D → CS c0 n S σ → CDy c0 n D σ → x2.toInt = (p : Int) → x1 = hset l → (∀ q, q < S_r S → (gi σ (c0 + 14) q).toInt = st q) →
    Rt (LF_X1_goesMinute c0 N 1 x1 x2 0 0 σ) (fun r σ' => r = hset (aGos S st k p l D).1 ∧ CDy c0 n (aGos S st k p l D).2 σ' ∧ FXn c0 n σ σ') := by
  intro k
  induction k with
  | zero =>
    intro p l D K σ N x1 x2 hp hN hK db hs hd hx h1 hq
    obtain ⟨N, rfl⟩ : ∃ j, N = j + 1 := ⟨N - 1, by omega⟩
    have h3 := hs.2.1
    obtain ⟨d1, d2, d3, d4, d5⟩ := hd
    have dm := db.1
    show Rt (LB_X1_goesMinute_31 c0 (LF_X1_goesMinute c0 N) x1 x2 σ) _
    unfold LB_X1_goesMinute_31
    refine Rt_t (i_le (by omega)) ?_
    refine Rt_fl (fun σ2 e2 => Rt_p ⟨h1, ⟨?_, ?_, ?_, ?_, ?_⟩, ?_⟩)
    · rw [e2, gi_si_eq, i_add (y := (1 : Int32)) (by show (_ : Int) ≤ _ + 1; omega) (by show _ + 1 ≤ (_ : Int); omega), d1]; rfl
    · exact row_k d2 (fun j => by rw [e2, gi_si_ne (Or.inl (by omega))])
    · exact row_k d3 (fun j => by rw [e2, gi_si_ne (Or.inl (by omega))])
    · exact row_k d4 (fun j => by rw [e2, gi_si_ne (Or.inl (by omega))])
    · exact row_k d5 (fun j => by rw [e2, gi_si_ne (Or.inl (by omega))])
    · rw [e2]; exact FX_si FX_rf (Or.inr (Or.inl ⟨rfl, rfl⟩))
  | succ k ih =>
    intro p l D K σ N x1 x2 hp hN hK db hs hd hx h1 hq
    obtain ⟨N, rfl⟩ : ∃ j, N = j + 2 := ⟨N - 2, by omega⟩
    have hp' : p < S_r S := by omega
    have n6 := sb.1
    have rn := sb.2.1
    have x3 : (x2 + (1 : Int32)).toInt = x2.toInt + 1 := i_add (y := (1 : Int32)) (by show (_ : Int) ≤ x2.toInt + 1; omega) (by show x2.toInt + 1 ≤ (_ : Int); omega)
    obtain ⟨σ1, g1, g2, g3, g4⟩ := goC (x1 := x1) hc sb db hs hd hx hp' (hq p hp') (hst p hp') N
    rw [g1]
    refine Rt_w (ih (p + 1) (if aHd S (st p) D p = true then l ++ [S_ln S p] else l) (aGo S (st p) D p) K σ1 N _ _ (by omega) (by omega) hK (aGo_b sb db hp') (CS_m hc g3 hs) g2 (by omega) ?_ (fun q hq' => by rw [g4]; exact hq q hq')) (fun r σ' h => ⟨h.1, h.2.1, FXn_tr g3 h.2.2⟩)
    by_cases a : aHd S (st p) D p = true
    · rw [if_pos a, if_pos a, hset_ap, h1]
    · rw [if_neg a, if_neg a]; exact h1
theorem strsC {c0 n : Nat} {K : Int} {S : Stc} {D : Dyn} (hc : c0 ≤ 33) (sb : SBd n S) (db : DBd n K D) (hK : K ≤ 200000) : ∀ (k p : Nat) (σ : Sg) (N : Nat) (x1 : Int32), p + k = S_r S → k + 2 * S_r S + 2 ≤ N → CS c0 n S σ → CDy c0 n D σ → x1.toInt = (p : Int) → (∀ q, q < p → (gi σ (c0 + 14) q).toInt = aSt S D q) →
    Rt (LF_X1_goesMinute c0 N 0 x1 0 0 0 σ) (fun r σ' => r = hset (aMin S D).1 ∧ CDy c0 n (aMin S D).2 σ' ∧ FXn c0 n σ σ') := by
  intro k
  induction k with
  | zero =>
    intro p σ N x1 hp hN hs hd hx hq
    obtain ⟨N, rfl⟩ : ∃ j, N = j + 1 := ⟨N - 1, by omega⟩
    have h3 := hs.2.1
    show Rt (LB_X1_goesMinute_2 c0 (LF_X1_goesMinute c0 N) x1 σ) _
    unfold LB_X1_goesMinute_2
    refine Rt_t (i_le (by omega)) ?_
    exact gosC hc sb (fun q hq' => aSt_b sb db hq') (S_r S) 0 [] D K σ N (0 : Int32) (0 : Int32) (by omega) (by omega) hK db hs hd rfl rfl (fun q hq' => hq q (by omega))
  | succ k ih =>
    intro p σ N x1 hp hN hs hd hx hq
    obtain ⟨N, rfl⟩ : ∃ j, N = j + 1 := ⟨N - 1, by omega⟩
    have h3 := hs.2.1
    have n6 := sb.1
    have rn := sb.2.1
    have hp' : p < S_r S := by omega
    have ex := cl_eq (x := x1) (by omega)
    have ep : x1.toNatClampNeg = p := by omega
    have x3 : (x1 + (1 : Int32)).toInt = x1.toInt + 1 := i_add (y := (1 : Int32)) (by show (_ : Int) ≤ x1.toInt + 1; omega) (by show x1.toInt + 1 ≤ (_ : Int); omega)
    show Rt (LB_X1_goesMinute_2 c0 (LF_X1_goesMinute c0 N) x1 σ) _
    unfold LB_X1_goesMinute_2
    refine Rt_f (i_nle (by omega)) ?_
    refine Rt_fb (strAtC hc sb db hs hd hx hp') (fun r3 σ2 h => ?_)
    obtain ⟨h1, f2⟩ := h
    rw [ep]
    refine Rt_fl (fun σ5 e5 => ?_)
    have f5 : FXs c0 σ σ5 := by rw [e5]; exact FX_si (FXl_s f2) (Or.inl (Or.inl rfl))
    refine Rt_fl (fun v6 e6 => ?_)
    refine Rt_w (ih (p + 1) σ5 N v6 (by omega) (by omega) (CS_m hc (FXs_n f5) hs) (CDy_s f5 hd) (by rw [e6]; omega) (fun q hq' => ?_)) (fun r σ' h => ⟨h.1, h.2.1, FXn_tr (FXs_n f5) h.2.2⟩)
    by_cases e : q = p
    · subst e; rw [e5, gi_si_eq]; exact h1
    · rw [e5, gi_si_ne (Or.inr e), FXl_i f2 (by omega)]; exact hq q (by omega)
theorem minC {c0 n : Nat} {K : Int} {S : Stc} {D : Dyn} {σ : Sg} (hc : c0 ≤ 33) (sb : SBd n S) (db : DBd n K D) (hK : K ≤ 200000) (hs : CS c0 n S σ) (hd : CDy c0 n D σ) :
    Rt (F_X1_goesMinute c0 σ) (fun r σ' => r = hset (aMin S D).1 ∧ CDy c0 n (aMin S D).2 σ' ∧ FXn c0 n σ σ') := by
  have n6 := sb.1
  have rn := sb.2.1
  unfold F_X1_goesMinute
  exact strsC hc sb db hK (S_r S) 0 σ 900 (0 : Int32) (by omega) (by omega) hs hd rfl (fun q h => absurd h (Nat.not_lt_zero q))
