/-! minutes, whetting, rests, how far all are: in the model; kept and put back -/
theorem aMin_len {S : Stc} {st : Nat → Int} : ∀ (k p : Nat) (l : List Nat) (D : Dyn), (aGos S st k p l D).1.length ≤ l.length + k := by
  intro k
  induction k with
  | zero => intro p l D; exact Nat.le_refl _
  | succ k ih =>
    intro p l D
    have h := ih (p + 1) (if aHd S (st p) D p = true then l ++ [S_ln S p] else l) (aGo S (st p) D p)
    have h2 : (if aHd S (st p) D p = true then l ++ [S_ln S p] else l).length ≤ l.length + 1 := by
      split
      · rw [List.length_append]; exact Nat.le_refl _
      · omega
    show (aGos S st k (p + 1) _ _).1.length ≤ _
    omega
noncomputable def aHel (S : Stc) : Nat → Dyn → Nat → Int
  | 0, _, _ => 0
  | k + 1, D, m => hc (aMin S D).1 m + aHel S k (aMin S D).2 m
/-- how often each was held, as the model counts -/
noncomputable def HTb (n : Nat) (b : Int) (B : Nat → Int) (σ : Sg) : Prop := ∀ m, m < n → (0 ≤ B m ∧ B m ≤ b) ∧ (gi σ 132 m).toInt = B m
theorem HTb_q {n : Nat} {b : Int} {B : Nat → Int} {S : Stc} {D : Dyn} {σ σ' : Sg} (r6 : S_r S ≤ 6) (hb : b ≤ 90000) (h : ∀ B, HTm n B [] σ → HTm n B (aMin S D).1 σ') (q : HTb n b B σ) : HTb n (b + 6) (fun m => B m + hc (aMin S D).1 m) σ' := by
  have h1 := h B (fun m hm => ⟨by have := (q m hm).1; omega, by rw [(q m hm).2]; show B m = B m + 0; omega⟩)
  intro m hm
  have hl := @aMin_len S (aSt S D) (S_r S) 0 [] D
  have hl' : (aMin S D).1.length ≤ 0 + S_r S := hl
  have hb2 := hc_b (m := m) (aMin S D).1
  have q1 := (q m hm).1
  exact ⟨by show 0 ≤ B m + hc (aMin S D).1 m ∧ B m + hc (aMin S D).1 m ≤ b + 6; omega, (h1 m hm).2⟩
theorem HTb_e {n : Nat} {b : Int} {B B' : Nat → Int} {σ : Sg} (e : ∀ m, m < n → B m = B' m) (q : HTb n b B σ) : HTb n b B' σ := fun m hm => by rw [← e m hm]; exact q m hm
theorem HTb_w {n : Nat} {b b' : Int} {B : Nat → Int} {σ : Sg} (hb : b ≤ b') (q : HTb n b B σ) : HTb n b' B σ := fun m hm => ⟨by have := (q m hm).1; omega, (q m hm).2⟩
theorem mgoesM {n : Nat} {S : Stc} (sb : SBd n S) : ∀ (j N : Nat) (x1 x2 : Int32) (D : Dyn) (K : Int) (σ : Sg), x1.toInt = x2.toInt + (j : Int) → j < N → x1.toInt ≤ 100000 → K + (j : Int) ≤ 200000 → DBd n K D → MT n S σ → MDy n D σ →
    Ru (LF_X12_goMinutes N x1 x2 σ) (fun σ' => MDy n (aMins S j D) σ' ∧ FXq n σ σ' ∧ ∀ b B, b + 6 * (j : Int) ≤ 90000 → HTb n b B σ → HTb n (b + 6 * j) (fun m => B m + aHel S j D m) σ') := by
  have rn := sb.2.1
  have n6 := sb.1
  intro j
  induction j with
  | zero =>
    intro N x1 x2 D K σ h hN hx hK db hs hd
    obtain ⟨N, rfl⟩ : ∃ i, N = i + 1 := ⟨N - 1, by omega⟩
    show Ru (LB_X12_goMinutes_2 (LF_X12_goMinutes N) x1 x2 σ) _
    unfold LB_X12_goMinutes_2
    exact Ru_t (i_le (by omega)) (Ru_p ⟨hd, FXq_rf, fun b B hb q => HTb_w (by omega) (HTb_e (fun m _ => by show B m = B m + 0; omega) q)⟩)
  | succ j ih =>
    intro N x1 x2 D K σ h hN hx hK db hs hd
    obtain ⟨N, rfl⟩ : ∃ i, N = i + 1 := ⟨N - 1, by omega⟩
    show Ru (LB_X12_goMinutes_2 (LF_X12_goMinutes N) x1 x2 σ) _
    unfold LB_X12_goMinutes_2
    refine Ru_f (i_nle (by omega)) ?_
    refine Ru_fb (minM sb db (by omega) hs hd) (fun r3 σ2 h3 => ?_)
    obtain ⟨-, h4, h5, h6⟩ := h3
    refine Ru_fl (fun v4 e4 => ?_)
    refine Ru_w (ih N x1 v4 _ (K + 1) σ2 (by rw [e4, i_inc (by omega)]; omega) (by omega) hx (by omega) (aMin_b sb db) (MT_q h5 hs) h4) (fun σ' h => ⟨h.1, FXq_tr h5 h.2.1, fun b B hb q => ?_⟩)
    have q2 := h.2.2 (b + 6) _ (by omega) (HTb_q (by omega) (by omega) h6 q)
    refine HTb_w (by omega) (HTb_e (fun m _ => ?_) q2)
    show B m + hc (aMin S D).1 m + aHel S j (aMin S D).2 m = B m + (hc (aMin S D).1 m + aHel S j (aMin S D).2 m)
    omega
theorem gosM9 {n j : Nat} {S : Stc} {D : Dyn} {K : Int} {σ : Sg} {a : Int32} (sb : SBd n S) (ha : a.toInt = (j : Int)) (hj : j ≤ 60) (hK : K ≤ 100000) (db : DBd n K D) (hs : MT n S σ) (hd : MDy n D σ) :
    Ru (F_X12_goMinutes a σ) (fun σ' => MDy n (aMins S j D) σ' ∧ FXq n σ σ' ∧ ∀ b B, b + 6 * (j : Int) ≤ 90000 → HTb n b B σ → HTb n (b + 6 * j) (fun m => B m + aHel S j D m) σ') := by
  unfold F_X12_goMinutes
  exact mgoesM sb j 300 a (0 : Int32) D K σ (by rw [ha]; show _ = (0 : Int) + _; omega) (by omega) (by omega) (by omega) db hs hd
theorem goWM {n : Nat} {D : Dyn} {K : Int} (db : DBd n K D) (hK : K ≤ 200000) : ∀ (k p N : Nat) (σ : Sg) (x1 : Int32), p + k = n → k < N → n ≤ 6 → (gi σ 74 0).toInt = (n : Int) → x1.toInt = (p : Int) → (gi σ 74 1).toInt = D_m D → (∀ m, m < n → (gi σ 105 m).toInt = D_at D m) → (∀ m, m < p → (gi σ 106 m).toInt = 10) → (∀ m, m < n → (gi σ 107 m).toInt = if m < p then pos0 (D_ti D m - 1) else D_ti D m) → (∀ m, m < n → (gi σ 108 m).toInt = if m < p then pos0 (D_st D m - 1) else D_st D m) →
    Ru (LF_X12_goWhet N x1 σ) (fun σ' => MDy n (aWhe D) σ' ∧ FXq n σ σ') := by
  intro k
  induction k with
  | zero =>
    intro p N σ x1 hp hN n6 hn h1 m1 m2 m3 m4 m5
    obtain ⟨N, rfl⟩ : ∃ i, N = i + 1 := ⟨N - 1, by omega⟩
    have dm := db.1
    show Ru (LB_X12_goWhet_2 (LF_X12_goWhet N) x1 σ) _
    unfold LB_X12_goWhet_2
    refine Ru_t (i_le (by omega)) ?_
    refine Ru_fl (fun σ2 e2 => Ru_p ⟨⟨?_, ?_, ?_, ?_, ?_⟩, ?_⟩)
    · rw [e2, gi_si_eq, i_inc (by omega), m1]; rfl
    · exact row_k m2 (fun j => by rw [e2, gi_si_ne (Or.inl (by decide))])
    · intro m hm; rw [e2, gi_si_ne (Or.inl (by decide))]; exact m3 m (by omega)
    · intro m hm; rw [e2, gi_si_ne (Or.inl (by decide)), m4 m hm, if_pos (by omega)]; rfl
    · intro m hm; rw [e2, gi_si_ne (Or.inl (by decide)), m5 m hm, if_pos (by omega)]; rfl
    · rw [e2]; exact FX_si FX_rf (Or.inr (Or.inl ⟨rfl, Or.inl rfl⟩))
  | succ k ih =>
    intro p N σ x1 hp hN n6 hn h1 m1 m2 m3 m4 m5
    obtain ⟨N, rfl⟩ : ∃ i, N = i + 1 := ⟨N - 1, by omega⟩
    have hpn : p < n := by omega
    obtain ⟨-, -, -, d4, d5⟩ := DBd_i.mp db
    have d4 := d4 p hpn
    have d5 := d5 p hpn
    have ex := cl_eq (x := x1) (by omega)
    have ep : x1.toNatClampNeg = p := by omega
    have t4 := m4 p hpn
    have t5 := m5 p hpn
    rw [if_neg (by omega)] at t4 t5
    show Ru (LB_X12_goWhet_2 (LF_X12_goWhet N) x1 σ) _
    unfold LB_X12_goWhet_2
    refine Ru_f (i_nle (by omega)) ?_
    rw [ep]
    refine Ru_fl (fun σ4 e4 => ?_)
    have f4 : FXd n σ σ4 := by rw [e4]; exact FXd_si FXd_rf (by omega)
    obtain ⟨r7, i1, i2⟩ := most0 (σ := σ4) (show (gi σ4 107 p - (1 : Int32)).toInt = D_ti D p - 1 from by rw [e4, gi_si_ne (Or.inl (by decide)), i_sub (y := (1 : Int32)) (by show (_ : Int) ≤ _ - 1; omega) (by show _ - 1 ≤ (_ : Int); omega), t4]; rfl)
    rw [i1, fb_e]
    refine Ru_fl (fun σ9 e9 => ?_)
    have f9 : FXd n σ σ9 := by rw [e9]; exact FXd_si f4 (by omega)
    obtain ⟨r12, j1, j2⟩ := most0 (σ := σ9) (show (gi σ9 108 p - (1 : Int32)).toInt = D_st D p - 1 from by rw [e9, gi_si_ne (Or.inl (by decide)), e4, gi_si_ne (Or.inl (by decide)), i_sub (y := (1 : Int32)) (by show (_ : Int) ≤ _ - 1; omega) (by show _ - 1 ≤ (_ : Int); omega), t5]; rfl)
    rw [j1, fb_e]
    refine Ru_fl (fun σa ea => ?_)
    have fa : FXd n σ σa := by rw [ea]; exact FXd_si f9 (by omega)
    refine Ru_fl (fun v15 e15 => ?_)
    refine Ru_w (ih (p + 1) N σa v15 (by omega) (by omega) n6 (by rw [FXd_i fa (by omega)]; exact hn) (by rw [e15, i_inc (by omega)]; omega) (by rw [FXd_i fa (by omega)]; exact m1) (row_k m2 (fun j => by rw [ea, gi_si_ne (Or.inl (by decide)), e9, gi_si_ne (Or.inl (by decide)), e4, gi_si_ne (Or.inl (by decide))])) (fun m hm => ?_) (fun m hm => ?_) (fun m hm => ?_)) (fun σ' h => ⟨h.1, FXq_tr (FXd_q fa) h.2⟩)
    · rw [ea, gi_si_ne (Or.inl (by decide)), e9, gi_si_ne (Or.inl (by decide)), e4]
      by_cases e : m = p
      · subst e; rw [gi_si_eq]; rfl
      · rw [gi_si_ne (Or.inr e)]; exact m3 m (by omega)
    · rw [ea, gi_si_ne (Or.inl (by decide)), e9]
      by_cases e : m = p
      · subst e; rw [gi_si_eq, if_pos (by omega)]; exact i2
      · rw [gi_si_ne (Or.inr e), e4, gi_si_ne (Or.inl (by decide)), m4 m hm]
        by_cases q : m < p
        · rw [if_pos q, if_pos (by omega)]
        · rw [if_neg q, if_neg (by omega)]
    · rw [ea]
      by_cases e : m = p
      · subst e; rw [gi_si_eq, if_pos (by omega)]; exact j2
      · rw [gi_si_ne (Or.inr e), e9, gi_si_ne (Or.inl (by decide)), e4, gi_si_ne (Or.inl (by decide)), m5 m hm]
        by_cases q : m < p
        · rw [if_pos q, if_pos (by omega)]
        · rw [if_neg q, if_neg (by omega)]
theorem whetM {n : Nat} {S : Stc} {D : Dyn} {K : Int} {σ : Sg} (sb : SBd n S) (db : DBd n K D) (hK : K ≤ 200000) (hs : MS n S σ) (hd : MDy n D σ) : Ru (F_X12_goWhet σ) (fun σ' => MDy n (aWhe D) σ' ∧ FXq n σ σ') := by
  obtain ⟨m1, m2, m3, m4, m5⟩ := hd
  have n6 := sb.1
  unfold F_X12_goWhet
  exact goWM db hK n 0 9 σ (0 : Int32) (by omega) (by omega) n6 hs.1 rfl m1 m2 (fun m hm => absurd hm (Nat.not_lt_zero m)) (fun m hm => by rw [if_neg (Nat.not_lt_zero m)]; exact m4 m hm) (fun m hm => by rw [if_neg (Nat.not_lt_zero m)]; exact m5 m hm)
theorem goPM {n j : Nat} {D : Dyn} {K : Int} {a : Int32} (db : DBd n K D) (hK : K ≤ 200000) (ha : a.toInt = (j : Int)) (hj : j ≤ 60) : ∀ (k p N : Nat) (σ : Sg) (x2 : Int32), p + k = n → k < N → n ≤ 6 → (gi σ 74 0).toInt = (n : Int) → x2.toInt = (p : Int) → (gi σ 74 1).toInt = D_m D → (∀ m, m < n → (gi σ 105 m).toInt = D_at D m) → (∀ m, m < n → (gi σ 106 m).toInt = D_ed D m) → (∀ m, m < n → (gi σ 107 m).toInt = if m < p then pos0 (D_ti D m - 3 * (j : Int)) else D_ti D m) → (∀ m, m < n → (gi σ 108 m).toInt = if m < p then pos0 (D_st D m - (j : Int)) else D_st D m) →
    Ru (LF_X12_goPause N a x2 σ) (fun σ' => MDy n (aPas j (3 * j) D) σ' ∧ FXq n σ σ') := by
  have a3 : ((3 : Int32) * a).toInt = 3 * (j : Int) := by rw [i_mull (c := (3 : Int32)) (k := 3) rfl (by omega) (by omega), ha]
  intro k
  induction k with
  | zero =>
    intro p N σ x2 hp hN n6 hn h1 m1 m2 m3 m4 m5
    obtain ⟨N, rfl⟩ : ∃ i, N = i + 1 := ⟨N - 1, by omega⟩
    have dm := db.1
    show Ru (LB_X12_goPause_2 (LF_X12_goPause N) a x2 σ) _
    unfold LB_X12_goPause_2
    refine Ru_t (i_le (by omega)) ?_
    refine Ru_fl (fun σ2 e2 => Ru_p ⟨⟨?_, ?_, ?_, ?_, ?_⟩, ?_⟩)
    · rw [e2, gi_si_eq, i_add (by omega) (by omega), m1, ha]; rfl
    · exact row_k m2 (fun j => by rw [e2, gi_si_ne (Or.inl (by decide))])
    · exact row_k m3 (fun j => by rw [e2, gi_si_ne (Or.inl (by decide))])
    · intro m hm; rw [e2, gi_si_ne (Or.inl (by decide)), m4 m hm, if_pos (by omega)]; rfl
    · intro m hm; rw [e2, gi_si_ne (Or.inl (by decide)), m5 m hm, if_pos (by omega)]; rfl
    · rw [e2]; exact FX_si FX_rf (Or.inr (Or.inl ⟨rfl, Or.inl rfl⟩))
  | succ k ih =>
    intro p N σ x2 hp hN n6 hn h1 m1 m2 m3 m4 m5
    obtain ⟨N, rfl⟩ : ∃ i, N = i + 1 := ⟨N - 1, by omega⟩
    have hpn : p < n := by omega
    obtain ⟨-, -, -, d4, d5⟩ := DBd_i.mp db
    have d4 := d4 p hpn
    have d5 := d5 p hpn
    have ex := cl_eq (x := x2) (by omega)
    have ep : x2.toNatClampNeg = p := by omega
    have t4 := m4 p hpn
    have t5 := m5 p hpn
    rw [if_neg (by omega)] at t4 t5
    show Ru (LB_X12_goPause_2 (LF_X12_goPause N) a x2 σ) _
    unfold LB_X12_goPause_2
    refine Ru_f (i_nle (by omega)) ?_
    rw [ep]
    obtain ⟨r7, i1, i2⟩ := most0 (σ := σ) (show (gi σ 107 p - ((3 : Int32) * a)).toInt = D_ti D p - 3 * (j : Int) from by rw [i_sub (by omega) (by omega), t4, a3])
    rw [i1, fb_e]
    refine Ru_fl (fun σ9 e9 => ?_)
    have f9 : FXd n σ σ9 := by rw [e9]; exact FXd_si FXd_rf (by omega)
    obtain ⟨r12, j1, j2⟩ := most0 (σ := σ9) (show (gi σ9 108 p - a).toInt = D_st D p - (j : Int) from by rw [e9, gi_si_ne (Or.inl (by decide)), i_sub (by omega) (by omega), t5, ha])
    rw [j1, fb_e]
    refine Ru_fl (fun σa ea => ?_)
    have fa : FXd n σ σa := by rw [ea]; exact FXd_si f9 (by omega)
    refine Ru_fl (fun v15 e15 => ?_)
    refine Ru_w (ih (p + 1) N σa v15 (by omega) (by omega) n6 (by rw [FXd_i fa (by omega)]; exact hn) (by rw [e15, i_inc (by omega)]; omega) (by rw [FXd_i fa (by omega)]; exact m1) (row_k m2 (fun j => by rw [ea, gi_si_ne (Or.inl (by decide)), e9, gi_si_ne (Or.inl (by decide))])) (row_k m3 (fun j => by rw [ea, gi_si_ne (Or.inl (by decide)), e9, gi_si_ne (Or.inl (by decide))])) (fun m hm => ?_) (fun m hm => ?_)) (fun σ' h => ⟨h.1, FXq_tr (FXd_q fa) h.2⟩)
    · rw [ea, gi_si_ne (Or.inl (by decide)), e9]
      by_cases e : m = p
      · subst e; rw [gi_si_eq, if_pos (by omega)]; exact i2
      · rw [gi_si_ne (Or.inr e), m4 m hm]
        by_cases q : m < p
        · rw [if_pos q, if_pos (by omega)]
        · rw [if_neg q, if_neg (by omega)]
    · rw [ea]
      by_cases e : m = p
      · subst e; rw [gi_si_eq, if_pos (by omega)]; exact j2
      · rw [gi_si_ne (Or.inr e), e9, gi_si_ne (Or.inl (by decide)), m5 m hm]
        by_cases q : m < p
        · rw [if_pos q, if_pos (by omega)]
        · rw [if_neg q, if_neg (by omega)]
theorem pausM {n j : Nat} {S : Stc} {D : Dyn} {K : Int} {σ : Sg} {a : Int32} (sb : SBd n S) (db : DBd n K D) (hK : K ≤ 200000) (ha : a.toInt = (j : Int)) (hj : j ≤ 60) (hs : MS n S σ) (hd : MDy n D σ) : Ru (F_X12_goPause a σ) (fun σ' => MDy n (aPas j (3 * j) D) σ' ∧ FXq n σ σ') := by
  obtain ⟨m1, m2, m3, m4, m5⟩ := hd
  have n6 := sb.1
  unfold F_X12_goPause
  exact goPM db hK ha hj n 0 9 σ (0 : Int32) (by omega) (by omega) n6 hs.1 rfl m1 m2 m3 (fun m hm => by rw [if_neg (Nat.not_lt_zero m)]; exact m4 m hm) (fun m hm => by rw [if_neg (Nat.not_lt_zero m)]; exact m5 m hm)
theorem allLM {n : Nat} {f : Nat → Int} {σ : Sg} (n6 : n ≤ 6) (hn : (gi σ 74 0).toInt = (n : Int)) (hf : ∀ m, m < n → (gi σ 105 m).toInt = f m) (hb : ∀ m, m < n → 0 ≤ f m ∧ f m ≤ 9999) : ∀ (k p N : Nat) (x1 x2 : Int32), p + k = n → k < N → x2.toInt = (p : Int) → x1.toInt = aAll f p → ∃ r, LF_X12_all N x1 x2 σ = (r, σ) ∧ r.toInt = aAll f n := by
  intro k
  induction k with
  | zero =>
    intro p N x1 x2 hp hN h2 h1
    obtain ⟨N, rfl⟩ : ∃ i, N = i + 1 := ⟨N - 1, by omega⟩
    show ∃ r, LB_X12_all_4 (LF_X12_all N) x1 x2 σ = (r, σ) ∧ _
    unfold LB_X12_all_4
    rw [if_pos (i_le (by omega))]
    exact ⟨x1, rfl, by rw [h1, show p = n from by omega]⟩
  | succ k ih =>
    intro p N x1 x2 hp hN h2 h1
    obtain ⟨N, rfl⟩ : ∃ i, N = i + 1 := ⟨N - 1, by omega⟩
    have ex := cl_eq (x := x2) (by omega)
    have ab := aAll_b hb p (by omega)
    have fb := hb p (by omega)
    have fp := hf p (by omega)
    show ∃ r, LB_X12_all_4 (LF_X12_all N) x1 x2 σ = (r, σ) ∧ _
    unfold LB_X12_all_4
    rw [if_neg (i_nle (by omega)), show x2.toNatClampNeg = p from by omega, fl_e, fl_e]
    exact ih (p + 1) N _ _ (by omega) (by omega) (by rw [i_inc (by omega)]; omega) (by rw [i_add (by omega) (by omega), h1, fp]; rfl)
theorem allM {n : Nat} {K : Int} {D : Dyn} {σ : Sg} (n6 : n ≤ 6) (hn : (gi σ 74 0).toInt = (n : Int)) (db : DBd n K D) (hd : MDy n D σ) : ∃ r, F_X12_all σ = (r, σ) ∧ r.toInt = aAll (D_at D) n := by
  unfold F_X12_all
  exact allLM n6 hn hd.2.1 (DBd_i.mp db).2.1 n 0 9 (0 : Int32) (0 : Int32) (by omega) (by omega) rfl rfl
theorem lngM {n : Nat} {S : Stc} {σ : Sg} (sb : SBd n S) (hs : MS n S σ) : ∃ r, F_X12_fieldLong σ = (r, σ) ∧ r.toInt = aLg (S_cl S) := by
  obtain ⟨r, l1, l2⟩ := lastM (w := 4) (d := 60) (x1 := (4 : Int32)) (x2 := (60 : Int32)) sb.2.2.2.2.2.2.2.2.1 sb.2.2.2.2.2.2.2.2.2 rfl rfl hs.2.2.2.2.2.2.1
  obtain ⟨q, m1, m2⟩ := mst (x := (1 : Int32)) (a := 1) (σ := σ) rfl l2
  unfold F_X12_fieldLong
  rw [l1, fb_e, m1, fb_e]
  refine ⟨q, rfl, ?_⟩
  rw [m2]
  unfold aLg
  split <;> split <;> omega
theorem donLM {n : Nat} {S : Stc} {g : Nat → Int} {σ : Sg} (sb : SBd n S) (hs : MS n S σ) (hf : ∀ m, m < n → (gi σ 105 m).toInt = g m) : ∀ (k p N : Nat) (x1 : Int32), p + k = n → k < N → x1.toInt = (p : Int) → LF_X12_isDone N x1 σ = (bIn (aDn (aLg (S_cl S)) g k p), σ) := by
  have n6 := sb.1
  have hn := hs.1
  obtain ⟨r, l1, l2⟩ := lngM sb hs
  intro k
  induction k with
  | zero =>
    intro p N x1 hp hN h1
    obtain ⟨N, rfl⟩ : ∃ i, N = i + 1 := ⟨N - 1, by omega⟩
    show LB_X12_isDone_2 (LF_X12_isDone N) x1 σ = _
    unfold LB_X12_isDone_2
    rw [if_pos (i_le (by omega))]; rfl
  | succ k ih =>
    intro p N x1 hp hN h1
    obtain ⟨N, rfl⟩ : ∃ i, N = i + 1 := ⟨N - 1, by omega⟩
    have ex := cl_eq (x := x1) (by omega)
    have fp := hf p (by omega)
    show LB_X12_isDone_2 (LF_X12_isDone N) x1 σ = (bIn (if aLg (S_cl S) ≤ g p then aDn (aLg (S_cl S)) g k (p + 1) else false), σ)
    unfold LB_X12_isDone_2
    rw [if_neg (i_nle (by omega)), l1, fb_e, show x1.toNatClampNeg = p from by omega]
    by_cases q : aLg (S_cl S) ≤ g p
    · rw [if_pos (i_le (by omega)), if_pos q, fl_e]
      exact ih (p + 1) N _ (by omega) (by omega) (by rw [i_inc (by omega)]; omega)
    · rw [if_neg (i_nle (by omega)), if_neg q]; rfl
theorem donM {n : Nat} {S : Stc} {D : Dyn} {σ : Sg} (sb : SBd n S) (hs : MS n S σ) (hd : MDy n D σ) : F_X12_isDone σ = (bIn (aDn (aLg (S_cl S)) (D_at D) n 0), σ) := by
  have n6 := sb.1
  unfold F_X12_isDone
  exact donLM sb hs hd.2.1 n 0 9 (0 : Int32) (by omega) (by omega) rfl
/-! kept and put back -/
noncomputable def Pz (id k : Nat) : Prop := id = 129 ∨ (131 ≤ id ∧ id ≤ 132) ∨ (134 ≤ id ∧ id ≤ 140) ∨ (id = 74 ∧ (k = 30 ∨ k = 33))
noncomputable def Pw (id k : Nat) : Prop := Pz id k ∨ (id = 74 ∧ k = 1) ∨ (105 ≤ id ∧ id ≤ 108 ∧ k < 6)
noncomputable def FXz (σ σ' : Sg) : Prop := ∀ id k, ¬ Pz id k → gi σ' id k = gi σ id k
noncomputable def FXw (σ σ' : Sg) : Prop := ∀ id k, ¬ Pw id k → gi σ' id k = gi σ id k
theorem FXz_rf {σ : Sg} : FXz σ σ := fun _ _ _ => rfl
theorem FXz_tr {σ σ1 σ2 : Sg} (f : FXz σ σ1) (g : FXz σ1 σ2) : FXz σ σ2 := fun id k h => (g id k h).trans (f id k h)
theorem FXw_tr {σ σ1 σ2 : Sg} (f : FXw σ σ1) (g : FXw σ1 σ2) : FXw σ σ2 := fun id k h => (g id k h).trans (f id k h)
theorem FXz_w {σ σ1 : Sg} (f : FXz σ σ1) : FXw σ σ1 := fun id k h => f id k (fun z => h (Or.inl z))
theorem FXz_i {σ σ1 : Sg} (f : FXz σ σ1) {id k : Nat} (h : id ≠ 129 ∧ (id < 131 ∨ 132 < id) ∧ (id < 134 ∨ 140 < id) ∧ (id ≠ 74 ∨ (k ≠ 30 ∧ k ≠ 33))) : gi σ1 id k = gi σ id k := f id k (fun z => by unfold Pz at z; omega)
theorem FXq_w {n : Nat} {σ σ1 : Sg} (n6 : n ≤ 6) (f : FXq n σ σ1) : FXw σ σ1 := fun id k h => FXq_i f (by unfold Pw Pz at h; omega)
theorem MT_z {n : Nat} {S : Stc} {σ σ1 : Sg} (f : FXz σ σ1) (h : MT n S σ) : MT n S σ1 := MT_eq (fun id k a => FXz_i f (by omega)) h
theorem MS_z {n : Nat} {S : Stc} {σ σ1 : Sg} (f : FXz σ σ1) (h : MS n S σ) : MS n S σ1 := MS_eq (fun id k a => FXz_i f (by omega)) h
theorem MDy_z {n : Nat} {D : Dyn} {σ σ1 : Sg} (f : FXz σ σ1) (h : MDy n D σ) : MDy n D σ1 := MDy_eq (fun id k a => FXz_i f (by omega)) h
/-- kept rows: what the model will put back -/
noncomputable def KP (σ0 σ : Sg) : Prop := FXw σ0 σ ∧ gi σ 74 33 = gi σ0 74 1 ∧ ∀ a, a < 4 → ∀ k, k < 6 → gi σ (134 + a) k = gi σ0 (105 + a) k
theorem KP_q {n : Nat} {σ0 σ σ1 : Sg} (n6 : n ≤ 6) (k : KP σ0 σ) (f : FXq n σ σ1) : KP σ0 σ1 := by
  obtain ⟨k1, k2, k3⟩ := k
  exact ⟨FXw_tr k1 (FXq_w n6 f), by rw [FXq_i f (by omega)]; exact k2, fun a ha k hk => by rw [FXq_i f (by omega)]; exact k3 a ha k hk⟩
theorem KP_si {σ0 σ : Sg} {a k : Nat} {v : Int32} (h : (105 ≤ a ∧ a ≤ 108 ∧ k < 6) ∨ (138 ≤ a ∧ a ≤ 140)) (q : KP σ0 σ) : KP σ0 (si σ a k v) := by
  obtain ⟨k1, k2, k3⟩ := q
  exact ⟨FXw_tr k1 (fun id j hj => gi_si_ne (by unfold Pw Pz at hj; omega)), by rw [gi_si_ne (Or.inl (by omega))]; exact k2, fun b hb k hk => by rw [gi_si_ne (Or.inl (by omega))]; exact k3 b hb k hk⟩
theorem savLM : ∀ (k p N : Nat) (σ : Sg) (x : Int32), p + k = 6 → k < N → x.toInt = (p : Int) →
    Ru (LF_X12_save N x σ) (fun σ' => FX (fun id => id = 132 ∨ (134 ≤ id ∧ id ≤ 137)) (fun _ _ => False) σ σ' ∧ (∀ a, a < 4 → ∀ k, k < 6 → gi σ' (134 + a) k = gi σ (if k < p then 134 + a else 105 + a) k) ∧ ∀ k, k < 6 → gi σ' 132 k = if k < p then gi σ 132 k else 0) := by
  intro k
  induction k with
  | zero =>
    intro p N σ x hp hN hx
    obtain ⟨N, rfl⟩ : ∃ i, N = i + 1 := ⟨N - 1, by omega⟩
    show Ru (LB_X12_save_10 (LF_X12_save N) x σ) _
    unfold LB_X12_save_10
    exact Ru_t (i_le (show (6 : Int) ≤ _ by omega)) (Ru_p ⟨FX_rf, fun a _ k hk => by rw [if_pos (by omega)], fun k hk => by rw [if_pos (by omega)]⟩)
  | succ k ih =>
    intro p N σ x hp hN hx
    obtain ⟨N, rfl⟩ : ∃ i, N = i + 1 := ⟨N - 1, by omega⟩
    have ex := cl_eq (x := x) (by omega)
    have ep : x.toNatClampNeg = p := by omega
    show Ru (LB_X12_save_10 (LF_X12_save N) x σ) _
    unfold LB_X12_save_10
    refine Ru_f (i_nle (show _ < (6 : Int) by omega)) ?_
    rw [ep]
    refine Ru_fl (fun σ4 e4 => ?_)
    refine Ru_fl (fun σ7 e7 => ?_)
    refine Ru_fl (fun σ10 e10 => ?_)
    refine Ru_fl (fun σ13 e13 => ?_)
    refine Ru_fl (fun σ15 e15 => ?_)
    refine Ru_fl (fun v16 e16 => ?_)
    have gg : ∀ id j, ¬ ((id = 132 ∨ (134 ≤ id ∧ id ≤ 137)) ∧ j = p) → gi σ15 id j = gi σ id j := by
      intro id j h
      rw [e15, gi_si_ne (by omega), e13, gi_si_ne (by omega), e10, gi_si_ne (by omega), e7, gi_si_ne (by omega), e4, gi_si_ne (by omega)]
    have own : ∀ a, a < 4 → gi σ15 (134 + a) p = gi σ (105 + a) p := by
      intro a ha
      rcases (show a = 0 ∨ a = 1 ∨ a = 2 ∨ a = 3 by omega) with rfl | rfl | rfl | rfl
      · rw [e15, gi_si_ne (Or.inl (by decide)), e13, gi_si_ne (Or.inl (by decide)), e10, gi_si_ne (Or.inl (by decide)), e7, gi_si_ne (Or.inl (by decide)), e4, gi_si_eq]
      · rw [e15, gi_si_ne (Or.inl (by decide)), e13, gi_si_ne (Or.inl (by decide)), e10, gi_si_ne (Or.inl (by decide)), e7, gi_si_eq, e4, gi_si_ne (Or.inl (by decide))]
      · rw [e15, gi_si_ne (Or.inl (by decide)), e13, gi_si_ne (Or.inl (by decide)), e10, gi_si_eq, e7, gi_si_ne (Or.inl (by decide)), e4, gi_si_ne (Or.inl (by decide))]
      · rw [e15, gi_si_ne (Or.inl (by decide)), e13, gi_si_eq, e10, gi_si_ne (Or.inl (by decide)), e7, gi_si_ne (Or.inl (by decide)), e4, gi_si_ne (Or.inl (by decide))]
    have o132 : gi σ15 132 p = 0 := by rw [e15, gi_si_eq]
    have f15 : FX (fun id => id = 132 ∨ (134 ≤ id ∧ id ≤ 137)) (fun _ _ => False) σ σ15 := by
      rw [e15, e13, e10, e7, e4]
      exact FX_si (FX_si (FX_si (FX_si (FX_si FX_rf (Or.inl (Or.inr (by omega)))) (Or.inl (Or.inr (by omega)))) (Or.inl (Or.inr (by omega)))) (Or.inl (Or.inr (by omega)))) (Or.inl (Or.inl rfl))
    refine Ru_w (ih (p + 1) N σ15 v16 (by omega) (by omega) (by rw [e16, i_inc (by omega)]; omega)) (fun σ' h => ⟨FX_tr f15 h.1 (fun _ h => h) (fun _ _ h => h.elim), fun a ha k hk => ?_, fun k hk => ?_⟩)
    · rw [h.2.1 a ha k hk]
      by_cases e : k = p
      · subst e; rw [if_pos (show k < k + 1 by omega), if_neg (show ¬ k < k by omega)]; exact own a ha
      · by_cases q : k < p
        · rw [if_pos (show k < p + 1 by omega), if_pos q]; exact gg _ k (by omega)
        · rw [if_neg (show ¬ k < p + 1 by omega), if_neg q]; exact gg _ k (by omega)
    · rw [h.2.2 k hk]
      by_cases e : k = p
      · subst e; rw [if_pos (show k < k + 1 by omega), if_neg (show ¬ k < k by omega)]; exact o132
      · by_cases q : k < p
        · rw [if_pos (show k < p + 1 by omega), if_pos q]; exact gg _ k (by omega)
        · rw [if_neg (show ¬ k < p + 1 by omega), if_neg q]
theorem savT {n : Nat} {S : Stc} {D : Dyn} {σ : Sg} (n6 : n ≤ 6) (hs : MT n S σ) (hd : MDy n D σ) : Ru (F_X12_save σ) (fun σ' => KP σ σ' ∧ MT n S σ' ∧ MDy n D σ' ∧ HTb n 0 (fun _ => 0) σ' ∧ FXz σ σ') := by
  unfold F_X12_save
  refine Ru_fl (fun σ1 e1 => ?_)
  refine Ru_w (savLM 6 0 9 σ1 (0 : Int32) rfl (by decide) rfl) (fun σ' h => ?_)
  obtain ⟨h1, h2, h3⟩ := h
  have f1 : FXz σ σ1 := fun id k h => by rw [e1]; exact gi_si_ne (by unfold Pz at h; omega)
  have fz : FXz σ σ' := FXz_tr f1 (fun id k h => h1.1 id k (fun z => by (try dsimp only at z); unfold Pz at h; omega) (fun z => z))
  refine ⟨⟨FXz_w fz, ?_, fun a ha k hk => ?_⟩, MT_z fz hs, MDy_z fz hd, fun m hm => ⟨⟨Int.le_refl _, Int.le_refl _⟩, ?_⟩, fz⟩
  · have := h1.1 74 33 (by intro z; (try dsimp only at z); omega) (fun z => z)
    rw [this, e1, gi_si_eq]
  · rw [h2 a ha k hk, if_neg (Nat.not_lt_zero k), e1, gi_si_ne (Or.inl (by omega))]
  · rw [h3 m (by omega), if_neg (Nat.not_lt_zero m)]; rfl
theorem savM {n : Nat} {S : Stc} {D : Dyn} {σ : Sg} (n6 : n ≤ 6) (hs : MS n S σ) (hd : MDy n D σ) : Ru (F_X12_save σ) (fun σ' => KP σ σ' ∧ MS n S σ' ∧ MDy n D σ' ∧ HTb n 0 (fun _ => 0) σ' ∧ FXz σ σ') :=
  Ru_w (savT n6 hs.2 hd) (fun σ' h => ⟨h.1, MS_z h.2.2.2.2 hs, h.2.2.1, h.2.2.2.1, h.2.2.2.2⟩)
theorem putLM : ∀ (k p N : Nat) (σ : Sg) (x : Int32), p + k = 6 → k < N → x.toInt = (p : Int) →
    Ru (LF_X12_putBack N x σ) (fun σ' => FX (fun _ => False) (fun id k => 105 ≤ id ∧ id ≤ 108 ∧ k < 6) σ σ' ∧ ∀ a, a < 4 → ∀ k, k < 6 → gi σ' (105 + a) k = gi σ (if k < p then 105 + a else 134 + a) k) := by
  intro k
  induction k with
  | zero =>
    intro p N σ x hp hN hx
    obtain ⟨N, rfl⟩ : ∃ i, N = i + 1 := ⟨N - 1, by omega⟩
    show Ru (LB_X12_putBack_10 (LF_X12_putBack N) x σ) _
    unfold LB_X12_putBack_10
    exact Ru_t (i_le (show (6 : Int) ≤ _ by omega)) (Ru_p ⟨FX_rf, fun a _ k hk => by rw [if_pos (by omega)]⟩)
  | succ k ih =>
    intro p N σ x hp hN hx
    obtain ⟨N, rfl⟩ : ∃ i, N = i + 1 := ⟨N - 1, by omega⟩
    have ex := cl_eq (x := x) (by omega)
    have ep : x.toNatClampNeg = p := by omega
    show Ru (LB_X12_putBack_10 (LF_X12_putBack N) x σ) _
    unfold LB_X12_putBack_10
    refine Ru_f (i_nle (show _ < (6 : Int) by omega)) ?_
    rw [ep]
    refine Ru_fl (fun σ4 e4 => ?_)
    refine Ru_fl (fun σ7 e7 => ?_)
    refine Ru_fl (fun σ10 e10 => ?_)
    refine Ru_fl (fun σ13 e13 => ?_)
    refine Ru_fl (fun v14 e14 => ?_)
    have gg : ∀ id j, ¬ (105 ≤ id ∧ id ≤ 108 ∧ j = p) → gi σ13 id j = gi σ id j := by
      intro id j h
      rw [e13, gi_si_ne (by omega), e10, gi_si_ne (by omega), e7, gi_si_ne (by omega), e4, gi_si_ne (by omega)]
    have own : ∀ a, a < 4 → gi σ13 (105 + a) p = gi σ (134 + a) p := by
      intro a ha
      rcases (show a = 0 ∨ a = 1 ∨ a = 2 ∨ a = 3 by omega) with rfl | rfl | rfl | rfl
      · rw [e13, gi_si_ne (Or.inl (by decide)), e10, gi_si_ne (Or.inl (by decide)), e7, gi_si_ne (Or.inl (by decide)), e4, gi_si_eq]
      · rw [e13, gi_si_ne (Or.inl (by decide)), e10, gi_si_ne (Or.inl (by decide)), e7, gi_si_eq, e4, gi_si_ne (Or.inl (by decide))]
      · rw [e13, gi_si_ne (Or.inl (by decide)), e10, gi_si_eq, e7, gi_si_ne (Or.inl (by decide)), e4, gi_si_ne (Or.inl (by decide))]
      · rw [e13, gi_si_eq, e10, gi_si_ne (Or.inl (by decide)), e7, gi_si_ne (Or.inl (by decide)), e4, gi_si_ne (Or.inl (by decide))]
    have f13 : FX (fun _ => False) (fun id k => 105 ≤ id ∧ id ≤ 108 ∧ k < 6) σ σ13 := by
      rw [e13, e10, e7, e4]
      exact FX_si (FX_si (FX_si (FX_si FX_rf (Or.inr (by omega))) (Or.inr (by omega))) (Or.inr (by omega))) (Or.inr (by omega))
    refine Ru_w (ih (p + 1) N σ13 v14 (by omega) (by omega) (by rw [e14, i_inc (by omega)]; omega)) (fun σ' h => ⟨FX_tr f13 h.1 (fun _ h => h) (fun _ _ h => Or.inr h), fun a ha k hk => ?_⟩)
    rw [h.2 a ha k hk]
    by_cases e : k = p
    · subst e; rw [if_pos (show k < k + 1 by omega), if_neg (show ¬ k < k by omega)]; exact own a ha
    · by_cases q : k < p
      · rw [if_pos (show k < p + 1 by omega), if_pos q]; exact gg _ k (by omega)
      · rw [if_neg (show ¬ k < p + 1 by omega), if_neg q]; exact gg _ k (by omega)
theorem putM {σ0 σ : Sg} (k : KP σ0 σ) : Ru (F_X12_putBack σ) (fun σ' => FXz σ0 σ') := by
  obtain ⟨k1, k2, k3⟩ := k
  unfold F_X12_putBack
  refine Ru_fl (fun σ1 e1 => ?_)
  refine Ru_w (putLM 6 0 9 σ1 (0 : Int32) rfl (by decide) rfl) (fun σ' h => ?_)
  obtain ⟨h1, h2⟩ := h
  have g1 : ∀ id j, ¬ (id = 74 ∧ j = 1) → gi σ1 id j = gi σ id j := fun id j h => by rw [e1, gi_si_ne (by omega)]
  intro id j a
  by_cases c : id = 74 ∧ j = 1
  · obtain ⟨rfl, rfl⟩ := c
    have := h1.1 74 1 (fun z => z) (fun z => by (try dsimp only at z); omega)
    rw [this, e1, gi_si_eq, k2]
  · by_cases d : 105 ≤ id ∧ id ≤ 108 ∧ j < 6
    · obtain ⟨t, rfl⟩ : ∃ t, id = 105 + t := ⟨id - 105, by omega⟩
      rw [h2 t (by omega) j d.2.2, if_neg (Nat.not_lt_zero j), g1 _ j (by omega), k3 t (by omega) j d.2.2]
    · have e2 := h1.1 id j (fun z => z) (fun z => d z)
      rw [e2, g1 id j c]
      exact k1 id j (fun z => by unfold Pw at z; rcases z with z | z | z; exact a z; exact c z; exact d z)
