/-! what the model answers, plain -/
noncomputable def aStp (m : Nat) (r : Int) (D : Dyn) : Dyn := (D_m D, D_at D, D_ed D, D_ti D, upi (D_st D) m (D_st D m + r))
theorem aStp_b {n m : Nat} {K r : Int} {D : Dyn} (d : DBd n K D) (h : D_st D m ≤ 99) (hm : m < n) (hr : 0 ≤ r ∧ r ≤ 20) : DBd n K (aStp m r D) := by
  obtain ⟨d1, d2, d3, d4, d5⟩ := DBd_i.mp d
  have := d5 m hm
  exact DBd_i.mpr ⟨d1, d2, d3, d4, upi_b d5 (by omega)⟩
theorem stpM {n m : Nat} {K r : Int} {D : Dyn} {σ : Sg} {y : Int32} (d : DBd n K D) (hm : m < n) (hy : y.toInt = r) (hr : 0 ≤ r ∧ r ≤ 20) (hd : MDy n D σ) : MDy n (aStp m r D) (si σ 108 m (gi σ 108 m + y)) := by
  obtain ⟨m1, m2, m3, m4, m5⟩ := hd
  have d5 := (DBd_i.mp d).2.2.2.2 m hm
  have t := m5 m hm
  refine ⟨by rw [gi_si_ne (Or.inl (by decide))]; exact m1, row_k m2 (fun j => gi_si_ne (Or.inl (by decide))), row_k m3 (fun j => gi_si_ne (Or.inl (by decide))), row_k m4 (fun j => gi_si_ne (Or.inl (by decide))), row_u m5 ?_ (fun j hj => gi_si_ne (Or.inr hj))⟩
  rw [gi_si_eq, i_add (by omega) (by omega), t, hy]
noncomputable def aBst (f : Nat → Int) : Nat → Nat → Int → Int → Int × Int
  | 0, _, b, m => (b, m)
  | j + 1, k, b, m => if m < f k then aBst f j (k + 1) (k : Int) (f k) else aBst f j (k + 1) b m
theorem aBst_s {f : Nat → Int} {j k : Nat} {b m : Int} : aBst f (j + 1) k b m = if m < f k then aBst f j (k + 1) (k : Int) (f k) else aBst f j (k + 1) b m := Eq.trans rfl rfl
noncomputable def tot (n : Nat) (D : Dyn) : Int := aAll (D_at D) n
theorem tot_b {n : Nat} {K : Int} {D : Dyn} (n6 : n ≤ 6) (d : DBd n K D) : 0 ≤ tot n D ∧ tot n D ≤ 60000 := by
  have := aAll_b (DBd_i.mp d).2.1 n (Nat.le_refl n)
  unfold tot
  omega
/-- the model's state, known -/
noncomputable def HMo (n : Nat) (K : Int) (S : Stc) (D : Dyn) (σ : Sg) : Prop := SBd n S ∧ DBd n K D ∧ K ≤ 20000 ∧ S_r S = n ∧ (∀ m, m < n → D_st D m ≤ 99) ∧ MS n S σ ∧ MDy n D σ
theorem HMo_z {n : Nat} {K : Int} {S : Stc} {D : Dyn} {σ σ' : Sg} (f : FXz σ σ') (h : HMo n K S D σ) : HMo n K S D σ' := ⟨h.1, h.2.1, h.2.2.1, h.2.2.2.1, h.2.2.2.2.1, MS_z f h.2.2.2.2.2.1, MDy_z f h.2.2.2.2.2.2⟩
theorem absM {n j : Nat} {K : Int} {S : Stc} {D : Dyn} {σ : Sg} {a : Int32} (sb : SBd n S) (db : DBd n K D) (hK : K ≤ 100000) (hs : MS n S σ) (hd : MDy n D σ) (ha : a.toInt = (j : Int)) (hj : j ≤ 60) :
    Rt (F_X12_allBehind a σ) (fun r σ' => r.toInt = tot n (aMins S j D) ∧ FXz σ σ') := by
  have n6 := sb.1
  unfold F_X12_allBehind
  refine Rt_fs (savM n6 hs hd) (fun σ1 ⟨k1, s1, d1, h1, z1⟩ => ?_)
  refine Rt_fs (gosM9 sb ha hj hK db s1.2 d1) (fun σ2 ⟨d2, f2, _⟩ => ?_)
  obtain ⟨r, e, v⟩ := allM n6 (MS_q f2 s1).1 (aMins_b sb j D K db) d2
  refine Rt_fe e ?_
  exact Rt_fs (putM (KP_q n6 k1 f2)) (fun σ5 z5 => Rt_p ⟨v, z5⟩)
theorem MS_si {n a k : Nat} {S : Stc} {σ : Sg} {v : Int32} (h : (105 ≤ a ∧ a ≤ 108) ∨ (138 ≤ a ∧ a ≤ 140)) (hs : MS n S σ) : MS n S (si σ a k v) := MS_eq (fun id j h9 => gi_si_ne (Or.inl (by omega))) hs
theorem astM {n j m : Nat} {K r : Int} {S : Stc} {D : Dyn} {σ : Sg} {a x y : Int32} (sb : SBd n S) (db : DBd n K D) (hK : K ≤ 100000) (hs : MS n S σ) (hd : MDy n D σ) (hx : x.toInt = (m : Int)) (hm : m < n) (h99 : D_st D m ≤ 99) (hy : y.toInt = r) (hr : 0 ≤ r ∧ r ≤ 20) (ha : a.toInt = (j : Int)) (hj : j ≤ 60) :
    Rt (F_X12_allStopped x y a σ) (fun q σ' => q.toInt = tot n (aMins S j (aStp m r D)) ∧ FXz σ σ') := by
  have n6 := sb.1
  have ex := cl_eq (x := x) (by omega)
  unfold F_X12_allStopped
  rw [show x.toNatClampNeg = m from by omega]
  refine Rt_fs (savM n6 hs hd) (fun σ1 ⟨k1, s1, d1, h1, z1⟩ => ?_)
  refine Rt_fl (fun σ4 e4 => ?_)
  have k4 : KP σ σ4 := by rw [e4]; exact KP_si (by omega) k1
  have s4 : MS n S σ4 := by rw [e4]; exact MS_si (by omega) s1
  have d4 : MDy n (aStp m r D) σ4 := by rw [e4]; exact stpM db hm hy hr d1
  have db4 := aStp_b db h99 hm hr
  refine Rt_fs (gosM9 sb ha hj hK db4 s4.2 d4) (fun σ2 ⟨d2, f2, _⟩ => ?_)
  obtain ⟨q, e, v⟩ := allM n6 (MS_q f2 s4).1 (aMins_b sb j _ K db4) d2
  refine Rt_fe e ?_
  exact Rt_fs (putM (KP_q n6 k4 f2)) (fun σ5 z5 => Rt_p ⟨v, z5⟩)
/-! on -/
noncomputable def r_on (n : Nat) (S : Stc) (D : Dyn) (a1 a2 : Int) : Int :=
  if a2 = 0 ∨ (10 ≤ a2 ∧ a2 ≤ 9 + (n : Int)) ∨ (20 ≤ a2 ∧ a2 ≤ 19 + (n : Int)) then
    (if 0 ≤ a1 ∧ a1 ≤ 60 then (if a2 = 0 then tot n (aMins S a1.toNat D) else if 20 ≤ a2 then aHel S a1.toNat D (a2 - 20).toNat else D_at (aMins S a1.toNat D) (a2 - 10).toNat) else -2)
  else -1
theorem on40M {n : Nat} {K : Int} {S : Stc} {D : Dyn} {σ : Sg} {a1 a2 : Int32} (h : HMo n K S D σ) (q : a2.toInt = 0 ∨ (10 ≤ a2.toInt ∧ a2.toInt ≤ 9 + (n : Int)) ∨ (20 ≤ a2.toInt ∧ a2.toInt ≤ 19 + (n : Int))) :
    Rt (LF_X12_on 9 a1 a2 σ) (fun r σ' => r.toInt = r_on n S D a1.toInt a2.toInt ∧ FXz σ σ') := by
  obtain ⟨sb, db, hK, hr, h99, hs, hd⟩ := h
  have n6 := sb.1
  show Rt (LB_X12_on_40 (LF_X12_on 8) a1 a2 σ) _
  unfold LB_X12_on_40 r_on
  rw [if_pos q]
  refine Rt_fe F_in ?_
  by_cases c : 0 ≤ a1.toInt ∧ a1.toInt ≤ 60
  · rw [if_pos (show (0 : Int32).toInt ≤ a1.toInt ∧ a1.toInt ≤ (60 : Int32).toInt from c), if_pos c]
    refine Rt_f (by decide) ?_
    obtain ⟨j, hj⟩ : ∃ j : Nat, a1.toInt = (j : Int) := ⟨a1.toInt.toNat, by omega⟩
    rw [hj, show ((j : Int)).toNat = j from by omega]
    refine Rt_fs (savM n6 hs hd) (fun σ1 ⟨k1, s1, d1, h1, z1⟩ => ?_)
    refine Rt_fs (gosM9 sb hj (by omega) (by omega) db s1.2 d1) (fun σ2 ⟨d2, f2, t2⟩ => ?_)
    have k2 := KP_q n6 k1 f2
    have s2 := MS_q f2 s1
    by_cases c0 : a2.toInt = 0
    · refine Rt_t (i_eq c0) ?_
      rw [if_pos c0]
      obtain ⟨r, e, v⟩ := allM n6 s2.1 (aMins_b sb j D K db) d2
      refine Rt_fe e ?_
      exact Rt_fs (putM k2) (fun σ5 z5 => Rt_p ⟨v, z5⟩)
    · refine Rt_f (i_ne c0) ?_
      rw [if_neg c0]
      by_cases c1 : 20 ≤ a2.toInt
      · refine Rt_t (i_le (show (20 : Int) ≤ a2.toInt from c1)) ?_
        rw [if_pos c1]
        have x1 : (a2 - (20 : Int32)).toInt = a2.toInt - 20 := by rw [i_sub (y := (20 : Int32)) (by show (_ : Int) ≤ _ - 20; omega) (by show _ - 20 ≤ (_ : Int); omega)]; rfl
        have ex := cl_eq (x := a2 - (20 : Int32)) (by omega)
        refine Rt_fl (fun v9 e9 => ?_)
        refine Rt_fs (putM k2) (fun σ5 z5 => Rt_p ⟨?_, z5⟩)
        have t := t2 0 (fun _ => 0) (by omega) h1 (a2.toInt - 20).toNat (by omega)
        rw [e9, show (a2 - (20 : Int32)).toNatClampNeg = (a2.toInt - 20).toNat from by omega]
        exact t.2.trans (Int.zero_add _)
      · refine Rt_f (i_nle (show a2.toInt < (20 : Int) by omega)) ?_
        rw [if_neg c1]
        have x1 : (a2 - (10 : Int32)).toInt = a2.toInt - 10 := by rw [i_sub (y := (10 : Int32)) (by show (_ : Int) ≤ _ - 10; omega) (by show _ - 10 ≤ (_ : Int); omega)]; rfl
        have ex := cl_eq (x := a2 - (10 : Int32)) (by omega)
        refine Rt_fl (fun v9 e9 => ?_)
        refine Rt_fs (putM k2) (fun σ5 z5 => Rt_p ⟨?_, z5⟩)
        rw [e9, show (a2 - (10 : Int32)).toNatClampNeg = (a2.toInt - 10).toNat from by omega]
        exact d2.2.1 _ (by omega)
  · rw [if_neg (show ¬ ((0 : Int32).toInt ≤ a1.toInt ∧ a1.toInt ≤ (60 : Int32).toInt) from c), if_neg c]
    exact Rt_t rfl (Rt_p ⟨rfl, FXz_rf⟩)
theorem i_addl {x : Int32} {c : Int32} {k : Int} (hc : c.toInt = k) (h1 : -2147483648 ≤ k + x.toInt) (h2 : k + x.toInt ≤ 2147483647) : (c + x).toInt = k + x.toInt := by rw [i_add (by omega) (by omega), hc]
theorem onM {n : Nat} {K : Int} {S : Stc} {D : Dyn} {σ : Sg} {a1 a2 : Int32} (h : HMo n K S D σ) :
    Rt (F_X12_on a1 a2 σ) (fun r σ' => r.toInt = r_on n S D a1.toInt a2.toInt ∧ FXz σ σ') := by
  have n6 := h.1.1
  have hn := h.2.2.2.2.2.1.1
  unfold F_X12_on
  by_cases c0 : a2.toInt = 0
  · exact Rt_t (i_eq c0) (on40M h (Or.inl c0))
  refine Rt_f (i_ne c0) ?_
  refine Rt_fe F_in ?_
  have e9 : ((9 : Int32) + gi σ 74 0).toInt = 9 + (n : Int) := by rw [i_addl (k := 9) rfl (by omega) (by omega), hn]
  have e19 : ((19 : Int32) + gi σ 74 0).toInt = 19 + (n : Int) := by rw [i_addl (k := 19) rfl (by omega) (by omega), hn]
  by_cases c1 : 10 ≤ a2.toInt ∧ a2.toInt ≤ 9 + (n : Int)
  · rw [if_pos (show (10 : Int32).toInt ≤ a2.toInt ∧ a2.toInt ≤ ((9 : Int32) + gi σ 74 0).toInt from ⟨c1.1, by omega⟩)]
    exact Rt_f (by decide) (on40M h (Or.inr (Or.inl c1)))
  rw [if_neg (show ¬ ((10 : Int32).toInt ≤ a2.toInt ∧ a2.toInt ≤ ((9 : Int32) + gi σ 74 0).toInt) from fun z => c1 ⟨z.1, by have := z.2; omega⟩)]
  refine Rt_t rfl ?_
  refine Rt_fe F_in ?_
  by_cases c2 : 20 ≤ a2.toInt ∧ a2.toInt ≤ 19 + (n : Int)
  · rw [if_pos (show (20 : Int32).toInt ≤ a2.toInt ∧ a2.toInt ≤ ((19 : Int32) + gi σ 74 0).toInt from ⟨c2.1, by omega⟩)]
    exact Rt_f (by decide) (on40M h (Or.inr (Or.inr c2)))
  rw [if_neg (show ¬ ((20 : Int32).toInt ≤ a2.toInt ∧ a2.toInt ≤ ((19 : Int32) + gi σ 74 0).toInt) from fun z => c2 ⟨z.1, by have := z.2; omega⟩)]
  refine Rt_t rfl (Rt_p ⟨?_, FXz_rf⟩)
  unfold r_on
  rw [if_neg (fun z => by rcases z with z | z | z; exact c0 z; exact c1 z; exact c2 z)]; rfl
/-! done -/
noncomputable def r_done (n : Nat) (S : Stc) : Nat → Nat → Dyn → Int
  | 0, _, _ => -5
  | j + 1, k, D => if aDn (aLg (S_cl S)) (D_at D) n 0 = true then (k : Int) else r_done n S j (k + 1) (aMin S D).2
theorem donLpM {n : Nat} {S : Stc} {σ0 : Sg} (sb : SBd n S) : ∀ (j k N : Nat) (x : Int32) (D : Dyn) (K : Int) (σ : Sg), j + k = 121 → 2 * j + 2 ≤ N → x.toInt = (k : Int) → K + (j : Int) ≤ 100000 → DBd n K D → MS n S σ → MDy n D σ → KP σ0 σ →
    Rt (LF_X12_done N 0 x σ) (fun r σ' => r.toInt = r_done n S j k D ∧ FXz σ0 σ') := by
  have n6 := sb.1
  intro j
  induction j with
  | zero =>
    intro k N x D K σ hj hN hx hK db hs hd hk
    obtain ⟨N, rfl⟩ : ∃ i, N = i + 2 := ⟨N - 2, by omega⟩
    show Rt (LB_X12_done_6 (LF_X12_done (N + 1)) x σ) _
    unfold LB_X12_done_6
    refine Rt_t (i_lt (show (120 : Int) < _ by omega)) ?_
    show Rt (LB_X12_done_30 (LF_X12_done N) x σ) _
    unfold LB_X12_done_30
    refine Rt_fs (putM hk) (fun σ1 z1 => ?_)
    exact Rt_t (i_lt (show (120 : Int) < _ by omega)) (Rt_p ⟨rfl, z1⟩)
  | succ j ih =>
    intro k N x D K σ hj hN hx hK db hs hd hk
    obtain ⟨N, rfl⟩ : ∃ i, N = i + 2 := ⟨N - 2, by omega⟩
    show Rt (LB_X12_done_6 (LF_X12_done (N + 1)) x σ) (fun r σ' => r.toInt = (if aDn (aLg (S_cl S)) (D_at D) n 0 = true then (k : Int) else r_done n S j (k + 1) (aMin S D).2) ∧ FXz σ0 σ')
    unfold LB_X12_done_6
    refine Rt_f (i_nlt (show _ ≤ (120 : Int) by omega)) ?_
    refine Rt_fe (donM sb hs hd) ?_
    by_cases c : aDn (aLg (S_cl S)) (D_at D) n 0 = true
    · rw [c, if_pos rfl]
      refine Rt_f (by decide) ?_
      show Rt (LB_X12_done_30 (LF_X12_done N) x σ) _
      unfold LB_X12_done_30
      refine Rt_fs (putM hk) (fun σ1 z1 => ?_)
      exact Rt_f (i_nlt (show _ ≤ (120 : Int) by omega)) (Rt_p ⟨hx, z1⟩)
    · rw [Bool.eq_false_iff.mpr c, if_neg (show ¬ (false = true) by decide)]
      refine Rt_t rfl ?_
      refine Rt_fs (gosM9 (j := 1) sb rfl (by decide) (by omega) db hs.2 hd) (fun σ5 ⟨d5, f5, _⟩ => ?_)
      refine Rt_fl (fun v6 e6 => ?_)
      exact ih (k + 1) (N + 1) v6 (aMin S D).2 (K + 1) σ5 (by omega) (by omega) (by rw [e6, i_inc (by omega)]; omega) (by omega) (aMin_b sb db) (MS_q f5 hs) d5 (KP_q n6 hk f5)
theorem doneM {n : Nat} {K : Int} {S : Stc} {D : Dyn} {σ : Sg} (h : HMo n K S D σ) : Rt (F_X12_done σ) (fun r σ' => r.toInt = r_done n S 121 0 D ∧ FXz σ σ') := by
  obtain ⟨sb, db, hK, hr, h99, hs, hd⟩ := h
  unfold F_X12_done
  exact Rt_fs (savM sb.1 hs hd) (fun σ1 ⟨k1, s1, d1, h1, z1⟩ => donLpM sb 121 0 400 (0 : Int32) D K σ1 rfl (by decide) rfl (by omega) db s1 d1 k1)
/-! whets -/
noncomputable def aTw (S : Stc) (k : Nat) : Nat → Nat → Dyn → Dyn
  | 0, _, D => D
  | j + 1, i, D => aTw S k j (i + 1) (if k < 16 ∧ i % k = 0 then aWhe D else (aMin S D).2)
theorem aTw_b {n : Nat} {S : Stc} {k : Nat} (h : SBd n S) : ∀ (j i : Nat) (D : Dyn) (K : Int), DBd n K D → DBd n (K + j) (aTw S k j i D) := by
  intro j
  induction j with
  | zero => intro i D K d; rw [show K + ((0 : Nat) : Int) = K from by omega]; exact d
  | succ j ih =>
    intro i D K d
    rw [show K + ((j + 1 : Nat) : Int) = K + 1 + (j : Int) from by omega]
    refine ih _ _ _ ?_
    split
    · exact aWhe_b d
    · exact aMin_b h d
theorem whdLM {n k : Nat} {S : Stc} {σ0 : Sg} {x1 x2 : Int32} {N0 : Nat} (sb : SBd n S) (h1 : x1.toInt = (N0 : Int)) (h60 : N0 ≤ 60) (h2 : x2.toInt = (k : Int)) (hk1 : 1 ≤ k) : ∀ (j i N : Nat) (x3 : Int32) (D : Dyn) (K : Int) (σ : Sg), i + j = N0 + 1 → j < N → x3.toInt = (i : Int) → 1 ≤ i → K + (j : Int) ≤ 100000 → DBd n K D → MS n S σ → MDy n D σ → KP σ0 σ →
    Rt (LF_X12_whetted N x1 x2 x3 σ) (fun r σ' => r.toInt = tot n (aTw S k j i D) ∧ FXz σ0 σ') := by
  have n6 := sb.1
  intro j
  induction j with
  | zero =>
    intro i N x3 D K σ hj hN hx hi hK db hs hd hk
    obtain ⟨N, rfl⟩ : ∃ i, N = i + 1 := ⟨N - 1, by omega⟩
    show Rt (LB_X12_whetted_6 (LF_X12_whetted N) x1 x2 x3 σ) _
    unfold LB_X12_whetted_6
    refine Rt_t (i_lt (by omega)) ?_
    obtain ⟨r, e, v⟩ := allM n6 hs.1 db hd
    refine Rt_fe e ?_
    exact Rt_fs (putM hk) (fun σ5 z5 => Rt_p ⟨v, z5⟩)
  | succ j ih =>
    intro i N x3 D K σ hj hN hx hi hK db hs hd hk
    obtain ⟨N, rfl⟩ : ∃ i, N = i + 1 := ⟨N - 1, by omega⟩
    show Rt (LB_X12_whetted_6 (LF_X12_whetted N) x1 x2 x3 σ) (fun r σ' => r.toInt = tot n (aTw S k j (i + 1) (if k < 16 ∧ i % k = 0 then aWhe D else (aMin S D).2)) ∧ FXz σ0 σ')
    unfold LB_X12_whetted_6
    refine Rt_f (i_nlt (by omega)) ?_
    have go : Rt (fl (F_X12_goMinutes (1 : Int32) σ) (fun σ6 => fl (x3 + 1) (fun v7 => LF_X12_whetted N x1 x2 v7 σ6))) (fun r σ' => r.toInt = tot n (aTw S k j (i + 1) (aMin S D).2) ∧ FXz σ0 σ') := by
      refine Rt_fs (gosM9 (j := 1) sb rfl (by decide) (by omega) db hs.2 hd) (fun σ5 ⟨d5, f5, _⟩ => ?_)
      refine Rt_fl (fun v6 e6 => ?_)
      exact ih (i + 1) N v6 (aMin S D).2 (K + 1) σ5 (by omega) (by omega) (by rw [e6, i_inc (by omega)]; omega) (by omega) (by omega) (aMin_b sb db) (MS_q f5 hs) d5 (KP_q n6 hk f5)
    by_cases c : 16 ≤ k
    · refine Rt_t (i_le (show (16 : Int) ≤ _ by omega)) ?_
      rw [if_neg (show ¬ (k < 16 ∧ i % k = 0) by omega)]
      exact go
    · refine Rt_f (i_nle (show _ < (16 : Int) by omega)) ?_
      have rm : (x3 - x3 / x2 * x2).toInt = ((i % k : Nat) : Int) := by rw [i_rem (k := (k : Int)) (by omega) (by omega) h2, hx]; omega
      by_cases d : i % k = 0
      · rw [if_pos (show k < 16 ∧ i % k = 0 from ⟨by omega, d⟩)]
        refine Rt_t (i_eq (show _ = (0 : Int) by omega)) ?_
        refine Rt_fs (whetM sb db (by omega) hs hd) (fun σ5 ⟨d5, f5⟩ => ?_)
        refine Rt_fl (fun v6 e6 => ?_)
        exact ih (i + 1) N v6 (aWhe D) (K + 1) σ5 (by omega) (by omega) (by rw [e6, i_inc (by omega)]; omega) (by omega) (by omega) (aWhe_b db) (MS_q f5 hs) d5 (KP_q n6 hk f5)
      · rw [if_neg (show ¬ (k < 16 ∧ i % k = 0) from fun z => d z.2)]
        refine Rt_f (i_ne (show _ ≠ (0 : Int) by omega)) ?_
        exact go
theorem whdM {n k j : Nat} {K : Int} {S : Stc} {D : Dyn} {σ : Sg} {x1 x2 : Int32} (h : HMo n K S D σ) (h1 : x1.toInt = (j : Int)) (h60 : j ≤ 60) (h2 : x2.toInt = (k : Int)) (hk1 : 1 ≤ k) : Rt (F_X12_whetted x1 x2 σ) (fun r σ' => r.toInt = tot n (aTw S k j 1 D) ∧ FXz σ σ') := by
  obtain ⟨sb, db, hK, hr, h99, hs, hd⟩ := h
  unfold F_X12_whetted
  exact Rt_fs (savM sb.1 hs hd) (fun σ1 ⟨k1, s1, d1, t1, z1⟩ => whdLM sb h1 h60 h2 hk1 j 1 90 (1 : Int32) D K σ1 (by omega) (by omega) rfl (by omega) (by omega) db s1 d1 k1)
theorem whtLM {n j : Nat} {K : Int} {S : Stc} {D : Dyn} {x1 x2 : Int32} (h1 : x1.toInt = (j : Int)) (h60 : j ≤ 60) : ∀ (i k N : Nat) (x3 x4 x5 : Int32) (b m : Int) (σ : Sg), i + k = 17 → 1 ≤ k → i < N → x3.toInt = b → x4.toInt = m → x5.toInt = (k : Int) → HMo n K S D σ →
    Rt (LF_X12_whets N x1 x2 x3 x4 x5 σ) (fun r σ' => r.toInt = (if x2.toInt = 0 then (aBst (fun k => tot n (aTw S k j 1 D)) i k b m).1 else (aBst (fun k => tot n (aTw S k j 1 D)) i k b m).2) ∧ FXz σ σ') := by
  intro i
  induction i with
  | zero =>
    intro k N x3 x4 x5 b m σ hi hk hN h3 h4 h5 h
    obtain ⟨N, rfl⟩ : ∃ i, N = i + 1 := ⟨N - 1, by omega⟩
    show Rt (LB_X12_whets_34 (LF_X12_whets N) x1 x2 x3 x4 x5 σ) _
    unfold LB_X12_whets_34
    refine Rt_t (i_le (show (17 : Int) ≤ _ by omega)) ?_
    by_cases c : x2.toInt = 0
    · rw [if_pos c]; exact Rt_t (i_eq c) (Rt_p ⟨h3, FXz_rf⟩)
    · rw [if_neg c]; exact Rt_f (i_ne c) (Rt_p ⟨h4, FXz_rf⟩)
  | succ i ih =>
    intro k N x3 x4 x5 b m σ hi hk hN h3 h4 h5 h
    obtain ⟨N, rfl⟩ : ∃ i, N = i + 1 := ⟨N - 1, by omega⟩
    show Rt (LB_X12_whets_34 (LF_X12_whets N) x1 x2 x3 x4 x5 σ) _
    unfold LB_X12_whets_34
    refine Rt_f (i_nle (show _ < (17 : Int) by omega)) ?_
    refine Rt_fb (whdM h h1 h60 h5 hk) (fun r4 σ3 ⟨v, z⟩ => ?_)
    rw [aBst_s]
    by_cases c : m < tot n (aTw S k j 1 D)
    · refine Rt_t (i_lt (by omega)) ?_
      rw [if_pos c]
      refine Rt_fl (fun v6 e6 => ?_)
      exact Rt_w (ih (k + 1) N x5 r4 v6 _ _ σ3 (by omega) (by omega) (by omega) h5 v (by rw [e6, i_inc (by omega)]; omega) (HMo_z z h)) (fun r σ' q => ⟨q.1, FXz_tr z q.2⟩)
    · refine Rt_f (i_nlt (by omega)) ?_
      rw [if_neg c]
      refine Rt_fl (fun v6 e6 => ?_)
      exact Rt_w (ih (k + 1) N x3 x4 v6 _ _ σ3 (by omega) (by omega) (by omega) h3 h4 (by rw [e6, i_inc (by omega)]; omega) (HMo_z z h)) (fun r σ' q => ⟨q.1, FXz_tr z q.2⟩)
noncomputable def r_whets (n : Nat) (S : Stc) (D : Dyn) (a1 a2 : Int) : Int :=
  if 0 ≤ a2 ∧ a2 ≤ 1 then (if 1 ≤ a1 ∧ a1 ≤ 60 then (if a2 = 0 then (aBst (fun k => tot n (aTw S k a1.toNat 1 D)) 16 1 0 (-1)).1 else (aBst (fun k => tot n (aTw S k a1.toNat 1 D)) 16 1 0 (-1)).2) else -2) else -1
theorem whetsM {n : Nat} {K : Int} {S : Stc} {D : Dyn} {σ : Sg} {a1 a2 : Int32} (h : HMo n K S D σ) : Rt (F_X12_whets a1 a2 σ) (fun r σ' => r.toInt = r_whets n S D a1.toInt a2.toInt ∧ FXz σ σ') := by
  unfold F_X12_whets r_whets
  refine Rt_fe F_in ?_
  by_cases c : 0 ≤ a2.toInt ∧ a2.toInt ≤ 1
  · rw [if_pos (show (0 : Int32).toInt ≤ a2.toInt ∧ a2.toInt ≤ (1 : Int32).toInt from c), if_pos c]
    refine Rt_f (by decide) ?_
    refine Rt_fe F_in ?_
    by_cases d : 1 ≤ a1.toInt ∧ a1.toInt ≤ 60
    · rw [if_pos (show (1 : Int32).toInt ≤ a1.toInt ∧ a1.toInt ≤ (60 : Int32).toInt from d), if_pos d]
      refine Rt_f (by decide) ?_
      obtain ⟨j, hj⟩ : ∃ j : Nat, a1.toInt = (j : Int) := ⟨a1.toInt.toNat, by omega⟩
      rw [hj, show ((j : Int)).toNat = j from by omega]
      exact whtLM hj (by omega) 16 1 20 (0 : Int32) (-1 : Int32) (1 : Int32) 0 (-1) σ (by decide) (by decide) (by decide) rfl rfl rfl h
    · rw [if_neg (show ¬ ((1 : Int32).toInt ≤ a1.toInt ∧ a1.toInt ≤ (60 : Int32).toInt) from d), if_neg d]
      exact Rt_t rfl (Rt_p ⟨rfl, FXz_rf⟩)
  · rw [if_neg (show ¬ ((0 : Int32).toInt ≤ a2.toInt ∧ a2.toInt ≤ (1 : Int32).toInt) from c), if_neg c]
    exact Rt_t rfl (Rt_p ⟨rfl, FXz_rf⟩)
