/-! minutes, whetting, rests, how far all are: plain, and in the class -/
noncomputable def aMins (S : Stc) : Nat → Dyn → Dyn
  | 0, D => D
  | k + 1, D => aMins S k (aMin S D).2
noncomputable def aPas (u v : Int) (D : Dyn) : Dyn := (D_m D + u, D_at D, D_ed D, fun m => pos0 (D_ti D m - v), fun m => pos0 (D_st D m - u))
noncomputable def aWhe (D : Dyn) : Dyn := (D_m D + 1, D_at D, fun _ => 10, fun m => pos0 (D_ti D m - 1), fun m => pos0 (D_st D m - 1))
noncomputable def aAll (f : Nat → Int) : Nat → Int
  | 0 => 0
  | k + 1 => aAll f k + f k
noncomputable def aDn (lg : Int) (f : Nat → Int) : Nat → Nat → Bool
  | 0, _ => true
  | k + 1, p => if lg ≤ f p then aDn lg f k (p + 1) else false
noncomputable def aLg (cl : List Cls) : Int := ((if lastW 4 60 cl < 1 then 1 else lastW 4 60 cl : Nat) : Int)
theorem aMins_b {n : Nat} {S : Stc} (h : SBd n S) : ∀ (k : Nat) (D : Dyn) (K : Int), DBd n K D → DBd n (K + k) (aMins S k D) := by
  intro k
  induction k with
  | zero => intro D K d; rw [show K + ((0 : Nat) : Int) = K from by omega]; exact d
  | succ k ih =>
    intro D K d
    have := ih _ _ (aMin_b h d)
    rw [show K + ((k + 1 : Nat) : Int) = K + 1 + (k : Int) from by omega]
    exact this
theorem pos0_m {x y k : Int} (h : x ≤ k) (hx : 0 ≤ k) (hy : 0 ≤ y) : 0 ≤ pos0 (x - y) ∧ pos0 (x - y) ≤ k := pos0_b (by omega) hx
theorem aPas_b {n : Nat} {D : Dyn} {K u v : Int} (d : DBd n K D) (hu : 0 ≤ u) (hv : 0 ≤ v) : DBd n (K + u) (aPas u v D) := by
  obtain ⟨d1, d2, d3, d4, d5⟩ := DBd_i.mp d
  exact DBd_i.mpr ⟨by show 0 ≤ D_m D + u ∧ D_m D + u ≤ K + u; omega, d2, d3, fun m hm => pos0_m (d4 m hm).2 (by decide) hv, fun m hm => pos0_m (d5 m hm).2 (by decide) hu⟩
theorem aWhe_b {n : Nat} {D : Dyn} {K : Int} (d : DBd n K D) : DBd n (K + 1) (aWhe D) := by
  obtain ⟨d1, d2, d3, d4, d5⟩ := DBd_i.mp d
  exact DBd_i.mpr ⟨by show 0 ≤ D_m D + 1 ∧ D_m D + 1 ≤ K + 1; omega, d2, fun m hm => ⟨by show (0 : Int) ≤ 10; decide, by show (10 : Int) ≤ 10; decide⟩, fun m hm => pos0_m (d4 m hm).2 (by decide) (by decide), fun m hm => pos0_m (d5 m hm).2 (by decide) (by decide)⟩
theorem aAll_b {n : Nat} {f : Nat → Int} (h : ∀ m, m < n → 0 ≤ f m ∧ f m ≤ 9999) : ∀ k, k ≤ n → 0 ≤ aAll f k ∧ aAll f k ≤ 9999 * (k : Int) := by
  intro k
  induction k with
  | zero => intro _; exact ⟨Int.le_refl _, Int.le_refl _⟩
  | succ k ih =>
    intro hk
    have a := ih (by omega)
    have b := h k (by omega)
    show 0 ≤ aAll f k + f k ∧ aAll f k + f k ≤ _
    omega
theorem i_inc {x : Int32} (h : x.toInt ≤ 2147483646) : (x + (1 : Int32)).toInt = x.toInt + 1 := by
  have := Int32.le_toInt x
  exact i_add (y := (1 : Int32)) (by show (_ : Int) ≤ x.toInt + 1; omega) (by show x.toInt + 1 ≤ (_ : Int); omega)
theorem goesC {c0 n : Nat} {S : Stc} (hc : c0 ≤ 33) (sb : SBd n S) : ∀ (j N : Nat) (x1 x2 : Int32) (D : Dyn) (K : Int) (σ : Sg), x1.toInt = x2.toInt + (j : Int) → j < N → x1.toInt ≤ 100000 → K + (j : Int) ≤ 200000 → DBd n K D → CS c0 n S σ → CDy c0 n D σ →
    Ru (LF_X1_goes c0 N x1 x2 σ) (fun σ' => CDy c0 n (aMins S j D) σ' ∧ FXn c0 n σ σ') := by
  intro j
  induction j with
  | zero =>
    intro N x1 x2 D K σ h hN hx hK db hs hd
    obtain ⟨N, rfl⟩ : ∃ i, N = i + 1 := ⟨N - 1, by omega⟩
    show Ru (LB_X1_goes_2 c0 (LF_X1_goes c0 N) x1 x2 σ) _
    unfold LB_X1_goes_2
    exact Ru_t (i_le (by omega)) (Ru_p ⟨hd, FXn_rf⟩)
  | succ j ih =>
    intro N x1 x2 D K σ h hN hx hK db hs hd
    obtain ⟨N, rfl⟩ : ∃ i, N = i + 1 := ⟨N - 1, by omega⟩
    show Ru (LB_X1_goes_2 c0 (LF_X1_goes c0 N) x1 x2 σ) _
    unfold LB_X1_goes_2
    refine Ru_f (i_nle (by omega)) ?_
    refine Ru_fb (minC hc sb db (by omega) hs hd) (fun r3 σ2 h3 => ?_)
    obtain ⟨-, h4, h5⟩ := h3
    refine Ru_fl (fun v4 e4 => ?_)
    exact Ru_w (ih N x1 v4 _ (K + 1) σ2 (by rw [e4, i_inc (by omega)]; omega) (by omega) hx (by omega) (aMin_b sb db) (CS_m hc h5 hs) h4) (fun σ' h => ⟨h.1, FXn_tr h5 h.2⟩)
theorem gosC9 {c0 n j : Nat} {S : Stc} {D : Dyn} {K : Int} {σ : Sg} {a : Int32} (hc : c0 ≤ 33) (sb : SBd n S) (ha : a.toInt = (j : Int)) (hj : j ≤ 60) (hK : K ≤ 100000) (db : DBd n K D) (hs : CS c0 n S σ) (hd : CDy c0 n D σ) :
    Ru (F_X1_goes c0 a σ) (fun σ' => CDy c0 n (aMins S j D) σ' ∧ FXn c0 n σ σ') := by
  unfold F_X1_goes
  exact goesC hc sb j 90 a (0 : Int32) D K σ (by rw [ha]; show _ = (0 : Int) + _; omega) (by omega) (by omega) (by omega) db hs hd
theorem i_m0 {x y : Int32} {a b : Int} (hx : x.toInt = a) (hy : y.toInt = b) (h1 : 0 ≤ a ∧ a ≤ 1000000) (h2 : 0 ≤ b ∧ b ≤ 1000000) : (jmax (0 : Int32) (x - y)).toInt = pos0 (a - b) := jmx0 (by rw [i_sub (by omega) (by omega), hx, hy])
theorem pasC {c0 n : Nat} {D : Dyn} {K u v : Int} {x1 x2 : Int32} (hc : c0 ≤ 33) (db : DBd n K D) (hK : K ≤ 200000) (h1 : x1.toInt = u) (h2 : x2.toInt = v) (hu : 0 ≤ u ∧ u ≤ 1000) (hv : 0 ≤ v ∧ v ≤ 3000) : ∀ (k p N : Nat) (σ : Sg) (x3 : Int32), p + k = n → k < N → n ≤ 6 → (gi σ c0 1).toInt = (n : Int) → x3.toInt = (p : Int) → (gi σ c0 9).toInt = D_m D → (∀ m, m < n → (gi σ (c0 + 3) m).toInt = D_at D m) → (∀ m, m < n → (gi σ (c0 + 4) m).toInt = D_ed D m) → (∀ m, m < n → (gi σ (c0 + 5) m).toInt = if m < p then pos0 (D_ti D m - v) else D_ti D m) → (∀ m, m < n → (gi σ (c0 + 6) m).toInt = if m < p then pos0 (D_st D m - u) else D_st D m) →
    Ru (LF_X1_passes c0 N x1 x2 x3 σ) (fun σ' => CDy c0 n (aPas u v D) σ' ∧ FXn c0 n σ σ') := by
  intro k
  induction k with
  | zero =>
    intro p N σ x3 hp hN n6 hn h3 m1 m2 m3 m4 m5
    obtain ⟨N, rfl⟩ : ∃ i, N = i + 1 := ⟨N - 1, by omega⟩
    have dm := db.1
    show Ru (LB_X1_passes_2 c0 (LF_X1_passes c0 N) x1 x2 x3 σ) _
    unfold LB_X1_passes_2
    refine Ru_t (i_le (by omega)) ?_
    refine Ru_fl (fun σ2 e2 => Ru_p ⟨⟨?_, ?_, ?_, ?_, ?_⟩, ?_⟩)
    · rw [e2, gi_si_eq, i_add (by omega) (by omega), m1, h1]; rfl
    · exact row_k m2 (fun j => by rw [e2, gi_si_ne (Or.inl (by omega))])
    · exact row_k m3 (fun j => by rw [e2, gi_si_ne (Or.inl (by omega))])
    · intro m hm; rw [e2, gi_si_ne (Or.inl (by omega)), m4 m hm, if_pos (by omega)]; rfl
    · intro m hm; rw [e2, gi_si_ne (Or.inl (by omega)), m5 m hm, if_pos (by omega)]; rfl
    · rw [e2]; exact FX_si FX_rf (Or.inr (Or.inl ⟨rfl, rfl⟩))
  | succ k ih =>
    intro p N σ x3 hp hN n6 hn h3 m1 m2 m3 m4 m5
    obtain ⟨N, rfl⟩ : ∃ i, N = i + 1 := ⟨N - 1, by omega⟩
    have hpn : p < n := by omega
    obtain ⟨-, -, -, d4, d5⟩ := DBd_i.mp db
    have d4 := d4 p hpn
    have d5 := d5 p hpn
    have ex := cl_eq (x := x3) (by omega)
    have ep : x3.toNatClampNeg = p := by omega
    have t4 := m4 p hpn
    have t5 := m5 p hpn
    rw [if_neg (by omega)] at t4 t5
    show Ru (LB_X1_passes_2 c0 (LF_X1_passes c0 N) x1 x2 x3 σ) _
    unfold LB_X1_passes_2
    refine Ru_f (i_nle (by omega)) ?_
    rw [ep]
    refine Ru_fl (fun v4 e4 => ?_)
    have v4i : v4.toInt = pos0 (D_ti D p - v) := by rw [e4]; exact i_m0 t4 h2 (by omega) (by omega)
    refine Ru_fl (fun σ6 e6 => ?_)
    refine Ru_fl (fun v8 e8 => ?_)
    have v8i : v8.toInt = pos0 (D_st D p - u) := by rw [e8, e6, gi_si_ne (Or.inl (by omega))]; exact i_m0 t5 h1 (by omega) (by omega)
    refine Ru_fl (fun σ10 e10 => ?_)
    have f10 : FXn c0 n σ σ10 := by rw [e10, e6]; exact FXn_si (FXn_si FXn_rf (by omega)) (by omega)
    refine Ru_fl (fun v11 e11 => ?_)
    refine Ru_w (ih (p + 1) N σ10 v11 (by omega) (by omega) n6 (by rw [FXn_i f10 (by omega)]; exact hn) (by rw [e11, i_inc (by omega)]; omega) (by rw [e10, gi_si_ne (Or.inl (by omega)), e6, gi_si_ne (Or.inl (by omega))]; exact m1) (row_k m2 (fun j => by rw [e10, gi_si_ne (Or.inl (by omega)), e6, gi_si_ne (Or.inl (by omega))])) (row_k m3 (fun j => by rw [e10, gi_si_ne (Or.inl (by omega)), e6, gi_si_ne (Or.inl (by omega))])) (fun m hm => ?_) (fun m hm => ?_)) (fun σ' h => ⟨h.1, FXn_tr f10 h.2⟩)
    · rw [e10, gi_si_ne (Or.inl (by omega)), e6]
      by_cases e : m = p
      · subst e; rw [gi_si_eq, if_pos (by omega)]; exact v4i
      · rw [gi_si_ne (Or.inr e), m4 m hm]
        by_cases q : m < p
        · rw [if_pos q, if_pos (by omega)]
        · rw [if_neg q, if_neg (by omega)]
    · rw [e10]
      by_cases e : m = p
      · subst e; rw [gi_si_eq, if_pos (by omega)]; exact v8i
      · rw [gi_si_ne (Or.inr e), e6, gi_si_ne (Or.inl (by omega)), m5 m hm]
        by_cases q : m < p
        · rw [if_pos q, if_pos (by omega)]
        · rw [if_neg q, if_neg (by omega)]
theorem passC {c0 n : Nat} {D : Dyn} {K u v : Int} {x1 x2 : Int32} {σ : Sg} (hc : c0 ≤ 33) (n6 : n ≤ 6) (db : DBd n K D) (hK : K ≤ 200000) (h1 : x1.toInt = u) (h2 : x2.toInt = v) (hu : 0 ≤ u ∧ u ≤ 1000) (hv : 0 ≤ v ∧ v ≤ 3000) (hn : (gi σ c0 1).toInt = (n : Int)) (hd : CDy c0 n D σ) :
    Ru (F_X1_passes c0 x1 x2 σ) (fun σ' => CDy c0 n (aPas u v D) σ' ∧ FXn c0 n σ σ') := by
  obtain ⟨m1, m2, m3, m4, m5⟩ := hd
  unfold F_X1_passes
  exact pasC hc db hK h1 h2 hu hv n 0 9 σ (0 : Int32) (by omega) (by omega) n6 hn rfl m1 m2 m3 (fun m hm => by rw [if_neg (by omega)]; exact m4 m hm) (fun m hm => by rw [if_neg (by omega)]; exact m5 m hm)
theorem restC {c0 n j : Nat} {S : Stc} {D : Dyn} {K : Int} {a : Int32} {σ : Sg} (hc : c0 ≤ 33) (sb : SBd n S) (db : DBd n K D) (hK : K ≤ 200000) (ha : a.toInt = (j : Int)) (hj : j ≤ 60) (hs : CS c0 n S σ) (hd : CDy c0 n D σ) :
    Ru (F_X1_rests c0 a σ) (fun σ' => CDy c0 n (aPas j (3 * j) D) σ' ∧ FXn c0 n σ σ') := by
  unfold F_X1_rests
  exact Ru_fs (passC hc sb.1 db hK ha (show ((3 : Int32) * a).toInt = 3 * (j : Int) from by rw [i_mull (c := (3 : Int32)) (k := 3) rfl (by omega) (by omega), ha]) (by omega) (by omega) hs.1 hd) (fun s h => Ru_p h)
theorem wheC {c0 n : Nat} {D : Dyn} {K : Int} (hc : c0 ≤ 33) (db : DBd n K D) (hK : K ≤ 200000) : ∀ (k p N : Nat) (σ : Sg) (x1 : Int32), p + k = n → k < N → n ≤ 6 → (gi σ c0 1).toInt = (n : Int) → x1.toInt = (p : Int) → (gi σ c0 9).toInt = D_m D → (∀ m, m < n → (gi σ (c0 + 3) m).toInt = D_at D m) → (∀ m, m < p → (gi σ (c0 + 4) m).toInt = 10) → (∀ m, m < n → (gi σ (c0 + 5) m).toInt = D_ti D m) → (∀ m, m < n → (gi σ (c0 + 6) m).toInt = D_st D m) →
    Ru (LF_X1_whetsAll c0 N x1 σ) (fun σ' => CDy c0 n (aWhe D) σ' ∧ FXn c0 n σ σ') := by
  intro k
  induction k with
  | zero =>
    intro p N σ x1 hp hN n6 hn h1 m1 m2 m3 m4 m5
    obtain ⟨N, rfl⟩ : ∃ i, N = i + 1 := ⟨N - 1, by omega⟩
    obtain ⟨d1, d2, d3, d4, d5⟩ := DBd_i.mp db
    show Ru (LB_X1_whetsAll_2 c0 (LF_X1_whetsAll c0 N) x1 σ) _
    unfold LB_X1_whetsAll_2
    refine Ru_t (i_le (by omega)) ?_
    have db' : DBd n K (D_m D, D_at D, (fun _ => 10), D_ti D, D_st D) := DBd_i.mpr ⟨d1, d2, fun m hm => ⟨by show (0 : Int) ≤ 10; decide, by show (10 : Int) ≤ 10; decide⟩, d4, d5⟩
    exact Ru_fs (passC (x1 := (1 : Int32)) (x2 := (1 : Int32)) (u := 1) (v := 1) hc n6 db' hK rfl rfl (by decide) (by decide) hn ⟨m1, m2, fun m hm => m3 m (by omega), m4, m5⟩) (fun s h => Ru_p h)
  | succ k ih =>
    intro p N σ x1 hp hN n6 hn h1 m1 m2 m3 m4 m5
    obtain ⟨N, rfl⟩ : ∃ i, N = i + 1 := ⟨N - 1, by omega⟩
    have ex := cl_eq (x := x1) (by omega)
    have ep : x1.toNatClampNeg = p := by omega
    show Ru (LB_X1_whetsAll_2 c0 (LF_X1_whetsAll c0 N) x1 σ) _
    unfold LB_X1_whetsAll_2
    refine Ru_f (i_nle (by omega)) ?_
    rw [ep]
    refine Ru_fl (fun σ4 e4 => ?_)
    have f4 : FXn c0 n σ σ4 := by rw [e4]; exact FXn_si FXn_rf (by omega)
    refine Ru_fl (fun v5 e5 => ?_)
    refine Ru_w (ih (p + 1) N σ4 v5 (by omega) (by omega) n6 (by rw [FXn_i f4 (by omega)]; exact hn) (by rw [e5, i_inc (by omega)]; omega) (by rw [e4, gi_si_ne (Or.inl (by omega))]; exact m1) (row_k m2 (fun j => by rw [e4, gi_si_ne (Or.inl (by omega))])) (fun m hm => ?_) (row_k m4 (fun j => by rw [e4, gi_si_ne (Or.inl (by omega))])) (row_k m5 (fun j => by rw [e4, gi_si_ne (Or.inl (by omega))]))) (fun σ' h => ⟨h.1, FXn_tr f4 h.2⟩)
    rw [e4]
    by_cases e : m = p
    · subst e; rw [gi_si_eq]; rfl
    · rw [gi_si_ne (Or.inr e)]; exact m3 m (by omega)
theorem whetC {c0 n : Nat} {S : Stc} {D : Dyn} {K : Int} {σ : Sg} (hc : c0 ≤ 33) (sb : SBd n S) (db : DBd n K D) (hK : K ≤ 200000) (hs : CS c0 n S σ) (hd : CDy c0 n D σ) :
    Ru (F_X1_whetsAll c0 σ) (fun σ' => CDy c0 n (aWhe D) σ' ∧ FXn c0 n σ σ') := by
  obtain ⟨m1, m2, m3, m4, m5⟩ := hd
  have n6 := sb.1
  unfold F_X1_whetsAll
  exact wheC hc db hK n 0 9 σ (0 : Int32) (by omega) (by omega) n6 hs.1 rfl m1 m2 (fun m hm => absurd hm (Nat.not_lt_zero m)) m4 m5
theorem allLC {c0 n : Nat} {f : Nat → Int} {σ : Sg} (n6 : n ≤ 6) (hn : (gi σ c0 1).toInt = (n : Int)) (hf : ∀ m, m < n → (gi σ (c0 + 3) m).toInt = f m) (hb : ∀ m, m < n → 0 ≤ f m ∧ f m ≤ 9999) : ∀ (k p N : Nat) (x1 x2 : Int32), p + k = n → k < N → x2.toInt = (p : Int) → x1.toInt = aAll f p → ∃ r, LF_X1_allAt c0 N x1 x2 σ = (r, σ) ∧ r.toInt = aAll f n := by
  intro k
  induction k with
  | zero =>
    intro p N x1 x2 hp hN h2 h1
    obtain ⟨N, rfl⟩ : ∃ i, N = i + 1 := ⟨N - 1, by omega⟩
    show ∃ r, LB_X1_allAt_4 c0 (LF_X1_allAt c0 N) x1 x2 σ = (r, σ) ∧ _
    unfold LB_X1_allAt_4
    rw [if_pos (i_le (by omega))]
    exact ⟨x1, rfl, by rw [h1, show p = n from by omega]⟩
  | succ k ih =>
    intro p N x1 x2 hp hN h2 h1
    obtain ⟨N, rfl⟩ : ∃ i, N = i + 1 := ⟨N - 1, by omega⟩
    have ex := cl_eq (x := x2) (by omega)
    have ab := aAll_b hb p (by omega)
    have fb := hb p (by omega)
    have fp := hf p (by omega)
    show ∃ r, LB_X1_allAt_4 c0 (LF_X1_allAt c0 N) x1 x2 σ = (r, σ) ∧ _
    unfold LB_X1_allAt_4
    rw [if_neg (i_nle (by omega)), show x2.toNatClampNeg = p from by omega, fl_e, fl_e]
    exact ih (p + 1) N _ _ (by omega) (by omega) (by rw [i_inc (by omega)]; omega) (by rw [i_add (by omega) (by omega), h1, fp]; rfl)
theorem allC {c0 n : Nat} {K : Int} {D : Dyn} {σ : Sg} (n6 : n ≤ 6) (hn : (gi σ c0 1).toInt = (n : Int)) (db : DBd n K D) (hd : CDy c0 n D σ) : ∃ r, F_X1_allAt c0 σ = (r, σ) ∧ r.toInt = aAll (D_at D) n := by
  unfold F_X1_allAt
  exact allLC n6 hn hd.2.1 (DBd_i.mp db).2.1 n 0 9 (0 : Int32) (0 : Int32) (by omega) (by omega) rfl rfl
theorem donLC {c0 n f : Nat} {g : Nat → Int} {lg : Int} {σ : Sg} (n6 : n ≤ 6) (hn : (gi σ c0 1).toInt = (n : Int)) (hf : ∀ m, m < n → (gi σ (c0 + 3) m).toInt = g m) (h10 : gr σ c0 10 = some f) (hl : (gi σ f 2).toInt = lg) : ∀ (k p N : Nat) (x1 : Int32), p + k = n → k < N → x1.toInt = (p : Int) → LF_X1_isDone c0 N x1 σ = (bIn (aDn lg g k p), σ) := by
  intro k
  induction k with
  | zero =>
    intro p N x1 hp hN h1
    obtain ⟨N, rfl⟩ : ∃ i, N = i + 1 := ⟨N - 1, by omega⟩
    show LB_X1_isDone_2 c0 (LF_X1_isDone c0 N) x1 σ = _
    unfold LB_X1_isDone_2
    rw [if_pos (i_le (by omega))]; rfl
  | succ k ih =>
    intro p N x1 hp hN h1
    obtain ⟨N, rfl⟩ : ∃ i, N = i + 1 := ⟨N - 1, by omega⟩
    have ex := cl_eq (x := x1) (by omega)
    have fp := hf p (by omega)
    show LB_X1_isDone_2 c0 (LF_X1_isDone c0 N) x1 σ = (bIn (if lg ≤ g p then aDn lg g k (p + 1) else false), σ)
    unfold LB_X1_isDone_2
    rw [if_neg (i_nle (by omega)), h10, show x1.toNatClampNeg = p from by omega]
    show (if gi σ f 2 ≤ gi σ (c0 + 3) p then fl (x1 + 1) (fun v5 => LF_X1_isDone c0 N v5 σ) else ((0 : Int32), σ)) = _
    by_cases q : lg ≤ g p
    · rw [if_pos (i_le (by omega)), if_pos q, fl_e]
      exact ih (p + 1) N _ (by omega) (by omega) (by rw [i_inc (by omega)]; omega)
    · rw [if_neg (i_nle (by omega)), if_neg q]; rfl
theorem donC {c0 n : Nat} {S : Stc} {D : Dyn} {σ : Sg} (n6 : n ≤ 6) (hs : CS c0 n S σ) (hd : CDy c0 n D σ) : F_X1_isDone c0 σ = (bIn (aDn (aLg (S_cl S)) (D_at D) n 0), σ) := by
  obtain ⟨s1, s2, s3, s4, s5, ⟨f, g10, hf, fa⟩, s7, s8⟩ := hs
  unfold F_X1_isDone
  exact donLC n6 s1 hd.2.1 g10 fa.2.1.2.2 n 0 9 (0 : Int32) (by omega) (by omega) rfl
/-! the trial becomes now -/
noncomputable def FXv (σ σ' : Sg) : Prop := FX (fun id => (33 ≤ id ∧ id ≤ 48) ∨ (66 ≤ id ∧ id ≤ 68)) (fun _ _ => False) σ σ'
theorem FXv_rf {σ : Sg} : FXv σ σ := FX_rf
theorem FXv_tr {σ σ1 σ2 : Sg} (f : FXv σ σ1) (g : FXv σ1 σ2) : FXv σ σ2 := FX_tr f g (fun _ h => h) (fun _ _ h => Or.inr h)
theorem FXv_i {σ σ1 : Sg} (f : FXv σ σ1) {id k : Nat} (h : (id < 33 ∨ 48 < id) ∧ (id < 66 ∨ 68 < id)) : gi σ1 id k = gi σ id k := FX_i f (fun z => by (try dsimp only at z); omega) (fun z => z)
theorem FXv_r {σ σ1 : Sg} (f : FXv σ σ1) {id k : Nat} (h : (id < 33 ∨ 48 < id) ∧ (id < 66 ∨ 68 < id)) : gr σ1 id k = gr σ id k := FX_r f (fun z => by (try dsimp only at z); omega) (fun z => z)
theorem FXn_v {n : Nat} {σ σ1 : Sg} (f : FXn 33 n σ σ1) : FXv σ σ1 := FX_tr FX_rf f (fun _ h => by (try dsimp only at h ⊢); omega) (fun _ _ h => Or.inl (by (try dsimp only at h ⊢); omega))
theorem CS_v {n : Nat} {S : Stc} {σ σ1 : Sg} (f : FXv σ σ1) (h : CS 1 n S σ) : CS 1 n S σ1 :=
  CS_eq (fun id k a => FXv_i f (by unfold RcC at a; omega)) (fun k => FXv_r f (by omega)) (FXv_r f (by omega)) h
theorem CDy_v {n : Nat} {D : Dyn} {σ σ1 : Sg} (f : FXv σ σ1) (h : CDy 1 n D σ) : CDy 1 n D σ1 := CDy_eq (fun id k a => FXv_i f (by omega)) h
theorem becLC : ∀ (k p N : Nat) (σ : Sg) (x2 : Int32), p + k = 6 → k < N → x2.toInt = (p : Int) →
    Ru (LF_X1_becomes 33 1 N x2 σ) (fun σ' => FXv σ σ' ∧ (∀ j, gi σ' 33 j = gi σ 33 j) ∧ gr σ' 33 10 = gr σ 33 10 ∧ (∀ m, m < 24 → gi σ' 40 m = gi σ 8 m) ∧ (∀ m, m < 6 → gr σ' 34 m = gr σ (if m < p then 34 else 2) m) ∧ ∀ a, a = 2 ∨ a = 3 ∨ a = 4 ∨ a = 5 ∨ a = 6 → ∀ m, m < 6 → gi σ' (33 + a) m = gi σ (if m < p then 33 + a else 1 + a) m) := by
  intro k
  induction k with
  | zero =>
    intro p N σ x2 hp hN h2
    obtain ⟨N, rfl⟩ : ∃ i, N = i + 1 := ⟨N - 1, by omega⟩
    show Ru (LB_X1_becomes_42 33 1 (LF_X1_becomes 33 1 N) x2 σ) _
    unfold LB_X1_becomes_42
    refine Ru_t (i_le (show (6 : Int) ≤ _ by omega)) ?_
    refine Ru_fl (fun σ2 e2 => Ru_p ⟨?_, ?_, ?_, ?_, ?_, ?_⟩)
    · rw [e2]; exact FX_sia FX_rf (Or.inl (by decide))
    · intro j; rw [e2, gi_sia, if_neg (by decide)]
    · rw [e2]; rfl
    · intro m hm; rw [e2, gi_sia, if_pos rfl]; exact cpy_in _ _ hm
    · intro m hm; rw [if_pos (show m < p by omega), e2]; rfl
    · intro a ha m hm; rw [if_pos (show m < p by omega), e2, gi_sia, if_neg (by omega)]
  | succ k ih =>
    intro p N σ x2 hp hN h2
    obtain ⟨N, rfl⟩ : ∃ i, N = i + 1 := ⟨N - 1, by omega⟩
    have ex := cl_eq (x := x2) (by omega)
    have ep : x2.toNatClampNeg = p := by omega
    show Ru (LB_X1_becomes_42 33 1 (LF_X1_becomes 33 1 N) x2 σ) _
    unfold LB_X1_becomes_42
    refine Ru_f (i_nle (show _ < (6 : Int) by omega)) ?_
    rw [ep]
    refine Ru_fl (fun σ5 e5 => ?_)
    refine Ru_fl (fun σ9 e9 => ?_)
    refine Ru_fl (fun σ12 e12 => ?_)
    refine Ru_fl (fun σ15 e15 => ?_)
    refine Ru_fl (fun σ18 e18 => ?_)
    refine Ru_fl (fun σ21 e21 => ?_)
    refine Ru_fl (fun v22 e22 => ?_)
    have f21 : FXv σ σ21 := by
      rw [e21, e18, e15, e12, e9, e5]
      exact FX_si (FX_si (FX_si (FX_si (FX_si (FX_sr FX_rf (Or.inl (Or.inl (by omega)))) (Or.inl (Or.inl (by omega)))) (Or.inl (Or.inl (by omega)))) (Or.inl (Or.inl (by omega)))) (Or.inl (Or.inl (by omega)))) (Or.inl (Or.inl (by omega)))
    have gg : ∀ id j, ¬ (35 ≤ id ∧ id ≤ 39 ∧ j = p) → gi σ21 id j = gi σ id j := by
      intro id j h
      rw [e21, gi_si_ne (by omega), e18, gi_si_ne (by omega), e15, gi_si_ne (by omega), e12, gi_si_ne (by omega), e9, gi_si_ne (by omega), e5, gi_sr]
    have rr : ∀ id j, ¬ (id = 34 ∧ j = p) → gr σ21 id j = gr σ id j := by
      intro id j h
      rw [e21, gr_si, e18, gr_si, e15, gr_si, e12, gr_si, e9, gr_si, e5, gr_sr, if_neg h]
    have r34 : gr σ21 34 p = gr σ 2 p := by
      rw [e21, gr_si, e18, gr_si, e15, gr_si, e12, gr_si, e9, gr_si, e5, gr_sr, if_pos ⟨rfl, rfl⟩]
    have own : ∀ a, a = 2 ∨ a = 3 ∨ a = 4 ∨ a = 5 ∨ a = 6 → gi σ21 (33 + a) p = gi σ (1 + a) p := by
      intro a ha
      rcases ha with rfl | rfl | rfl | rfl | rfl
      · rw [e21, gi_si_ne (Or.inl (by decide)), e18, gi_si_ne (Or.inl (by decide)), e15, gi_si_ne (Or.inl (by decide)), e12, gi_si_ne (Or.inl (by decide)), e9, gi_si_eq, e5, gi_sr]
      · rw [e21, gi_si_ne (Or.inl (by decide)), e18, gi_si_ne (Or.inl (by decide)), e15, gi_si_ne (Or.inl (by decide)), e12, gi_si_eq, e9, gi_si_ne (Or.inl (by decide)), e5, gi_sr]
      · rw [e21, gi_si_ne (Or.inl (by decide)), e18, gi_si_ne (Or.inl (by decide)), e15, gi_si_eq, e12, gi_si_ne (Or.inl (by decide)), e9, gi_si_ne (Or.inl (by decide)), e5, gi_sr]
      · rw [e21, gi_si_ne (Or.inl (by decide)), e18, gi_si_eq, e15, gi_si_ne (Or.inl (by decide)), e12, gi_si_ne (Or.inl (by decide)), e9, gi_si_ne (Or.inl (by decide)), e5, gi_sr]
      · rw [e21, gi_si_eq, e18, gi_si_ne (Or.inl (by decide)), e15, gi_si_ne (Or.inl (by decide)), e12, gi_si_ne (Or.inl (by decide)), e9, gi_si_ne (Or.inl (by decide)), e5, gi_sr]
    refine Ru_w (ih (p + 1) N σ21 v22 (by omega) (by omega) (by rw [e22, i_inc (by omega)]; omega)) (fun σ' h => ?_)
    obtain ⟨h1, h3, h4, h5, h6, h7⟩ := h
    refine ⟨FXv_tr f21 h1, fun j => by rw [h3, gg 33 j (by omega)], by rw [h4, rr 33 10 (by omega)], fun m hm => by rw [h5 m hm, gg 8 m (by omega)], fun m hm => ?_, fun a ha m hm => ?_⟩
    · rw [h6 m hm]
      by_cases e : m = p
      · subst e; rw [if_pos (show m < m + 1 by omega), if_neg (show ¬ m < m by omega), r34]
      · by_cases q : m < p
        · rw [if_pos (show m < p + 1 by omega), if_pos q]; exact rr 34 m (by omega)
        · rw [if_neg (show ¬ m < p + 1 by omega), if_neg q]; exact rr 2 m (by omega)
    · rw [h7 a ha m hm]
      by_cases e : m = p
      · subst e; rw [if_pos (show m < m + 1 by omega), if_neg (show ¬ m < m by omega)]; exact own a ha
      · by_cases q : m < p
        · rw [if_pos (show m < p + 1 by omega), if_pos q]; exact gg _ m (by omega)
        · rw [if_neg (show ¬ m < p + 1 by omega), if_neg q]; exact gg _ m (by omega)
theorem becC {n : Nat} {S : Stc} {D : Dyn} {σ : Sg} (n6 : n ≤ 6) (rn : S_r S ≤ n) (hs : CS 1 n S σ) (hd : CDy 1 n D σ) :
    Ru (F_X1_becomes 33 1 σ) (fun σ' => CS 33 n S σ' ∧ CDy 33 n D σ' ∧ FXv σ σ') := by
  obtain ⟨s1, s2, s3, s4, s5, ⟨f, g10, hf, fa⟩, s7, s8⟩ := hs
  obtain ⟨d1, d2, d3, d4, d5⟩ := hd
  unfold F_X1_becomes
  refine Ru_fl (fun σ1 e1 => ?_)
  refine Ru_fl (fun σ2 e2 => ?_)
  refine Ru_fl (fun σ3 e3 => ?_)
  have g3 : gr σ3 1 10 = some f := by rw [e3, gr_si, e2, gr_si, e1, gr_si]; exact g10
  refine Ru_o g3 ?_
  refine Ru_fl (fun σ5 e5 => ?_)
  refine Ru_fl (fun σ6 e6 => ?_)
  have o1 : ∀ id j, id ≠ 33 → gi σ6 id j = gi σ id j := by
    intro id j h
    rw [e6, gi_si_ne (Or.inl h), e5, gi_sr, e3, gi_si_ne (Or.inl h), e2, gi_si_ne (Or.inl h), e1, gi_si_ne (Or.inl h)]
  have r1 : ∀ id j, id ≠ 33 → gr σ6 id j = gr σ id j := by
    intro id j h
    rw [e6, gr_si, e5, gr_sr, if_neg (fun z => h z.1), e3, gr_si, e2, gr_si, e1, gr_si]
  have r2 : gr σ6 33 10 = some f := by rw [e6, gr_si, e5, gr_sr, if_pos ⟨rfl, rfl⟩]
  have c1 : gi σ6 33 1 = gi σ 1 1 := by rw [e6, gi_si_ne (Or.inr (by decide)), e5, gi_sr, e3, gi_si_ne (Or.inr (by decide)), e2, gi_si_ne (Or.inr (by decide)), e1, gi_si_eq]
  have c3 : gi σ6 33 3 = gi σ 1 3 := by rw [e6, gi_si_ne (Or.inr (by decide)), e5, gi_sr, e3, gi_si_ne (Or.inr (by decide)), e2, gi_si_eq, e1, gi_si_ne (Or.inl (by decide))]
  have c9 : gi σ6 33 9 = gi σ 1 9 := by rw [e6, gi_si_ne (Or.inr (by decide)), e5, gi_sr, e3, gi_si_eq, e2, gi_si_ne (Or.inl (by decide)), e1, gi_si_ne (Or.inl (by decide))]
  have c11 : gi σ6 33 11 = gi σ 1 11 := by rw [e6, gi_si_eq, e5, gi_sr, e3, gi_si_ne (Or.inl (by decide)), e2, gi_si_ne (Or.inl (by decide)), e1, gi_si_ne (Or.inl (by decide))]
  have f6 : FXv σ σ6 := by
    rw [e6, e5, e3, e2, e1]
    exact FX_si (FX_sr (FX_si (FX_si (FX_si FX_rf (Or.inl (Or.inl (by decide)))) (Or.inl (Or.inl (by decide)))) (Or.inl (Or.inl (by decide)))) (Or.inl (Or.inl (by decide)))) (Or.inl (Or.inl (by decide)))
  refine Ru_w (becLC 6 0 9 σ6 (0 : Int32) rfl (by decide) rfl) (fun σ' h => ?_)
  obtain ⟨h1, h3, h4, h5, h6, h7⟩ := h
  have fv := FXv_tr f6 h1
  have w : ∀ a, a = 2 ∨ a = 3 ∨ a = 4 ∨ a = 5 ∨ a = 6 → ∀ m, m < 6 → gi σ' (33 + a) m = gi σ (1 + a) m := fun a ha m hm => by
    have := h7 a ha m hm
    rw [if_neg (Nat.not_lt_zero m)] at this
    rw [this, o1 _ m (by omega)]
  refine ⟨⟨by rw [h3, c1]; exact s1, by rw [h3, c3]; exact s2, fun p hp => ?_, fun m hm => ?_, fun k hk => by rw [h5 k hk, o1 8 k (by decide)]; exact s5 k hk, ⟨f, by rw [h4]; exact r2, hf, FdA_eq (fun id k a b => FXv_i fv (by omega)) fa⟩, s7, by rw [h3, c11]; exact s8⟩, ⟨by rw [h3, c9]; exact d1, fun m hm => ?_, fun m hm => ?_, fun m hm => ?_, fun m hm => ?_⟩, fv⟩
  · rw [w 2 (by omega) p (by omega)]; exact s3 p hp
  · obtain ⟨μ, κ, a1, a2, a3, a4, a5, a6, a7, a8⟩ := s4 m hm
    have h9 := h6 m (by omega)
    rw [if_neg (Nat.not_lt_zero m), r1 2 m (by decide)] at h9
    exact ⟨μ, κ, by rw [h9]; exact a1, a2, a3, a4, a5, by rw [FXv_i fv (by omega)]; exact a6, by rw [FXv_i fv (by omega)]; exact a7, by rw [FXv_i fv (by omega)]; exact a8⟩
  · rw [w 3 (by omega) m (by omega)]; exact d2 m hm
  · rw [w 4 (by omega) m (by omega)]; exact d3 m hm
  · rw [w 5 (by omega) m (by omega)]; exact d4 m hm
  · rw [w 6 (by omega) m (by omega)]; exact d5 m hm
