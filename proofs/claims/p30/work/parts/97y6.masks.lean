/-! what the model answers, plain -/
noncomputable def aStp (m : Nat) (r : Int) (D : Dyn) : Dyn := (D_m D, D_at D, D_ed D, D_ti D, upi (D_st D) m (D_st D m + r))
theorem aStp_b {n m : Nat} {K r : Int} {D : Dyn} (d : DBd n K D) (h : D_st D m ≤ 99) (hm : m < n) (hr : 0 ≤ r ∧ r ≤ 20) : DBd n K (aStp m r D) := by
  obtain ⟨d1, d2, d3, d4, d5⟩ := DBd_i.mp d
  have := d5 m hm
  exact DBd_i.mpr ⟨d1, d2, d3, d4, upi_b d5 (by omega)⟩
theorem stpM {n m : Nat} {K r : Int} {D : Dyn} {σ : Sg} {y : Int32} (d : DBd n K D) (hm : m < n) (hy : y.toInt = r) (hr : 0 ≤ r ∧ r ≤ 20) (hd : MDy n D σ) : MDy n (aStp m r D) (si σ 108 m (gi σ 108 m + y)) := by
  obtain ⟨m1, m2, m3, m4, m5⟩ := hd
  have d5 := (DBd_i.mp d).2.2.2.2 m hm
  have t := m5 m hm
  refine ⟨by rw [gi_si_ne (Or.inl (by decide +kernel))]; exact m1, row_k m2 (fun j => gi_si_ne (Or.inl (by decide +kernel))), row_k m3 (fun j => gi_si_ne (Or.inl (by decide +kernel))), row_k m4 (fun j => gi_si_ne (Or.inl (by decide +kernel))), row_u m5 ?_ (fun j hj => gi_si_ne (Or.inr hj))⟩
  rw [gi_si_eq, i_add (by omega) (by omega), t, hy]
noncomputable def aBst (f : Nat → Int) : Nat → Nat → Int → Int → Int × Int
  | 0, _, b, m => (b, m)
  | j + 1, k, b, m => if m < f k then aBst f j (k + 1) (k : Int) (f k) else aBst f j (k + 1) b m
theorem aBst_s {f : Nat → Int} {j k : Nat} {b m : Int} : aBst f (j + 1) k b m = if m < f k then aBst f j (k + 1) (k : Int) (f k) else aBst f j (k + 1) b m := Eq.trans rfl rfl
noncomputable def tot (n : Nat) (D : Dyn) : Int := aAll (D_at D) n
theorem tot_b {n : Nat} {K : Int} {D : Dyn} (n6 : n ≤ 6) (d : DBd n K D) : 0 ≤ tot n D ∧ tot n D ≤ 60000 := by
  have := aAll_b (DBd_i.mp d).2.1 n (Nat.le_refl n)
  unfold tot
  omega
/-- the model's state, known -/
noncomputable def HMo (n : Nat) (K : Int) (S : Stc) (D : Dyn) (σ : Sg) : Prop := SBd n S ∧ DBd n K D ∧ K ≤ 20000 ∧ S_r S = n ∧ (∀ m, m < n → D_st D m ≤ 99) ∧ MS n S σ ∧ MDy n D σ
theorem HMo_z {n : Nat} {K : Int} {S : Stc} {D : Dyn} {σ σ' : Sg} (f : FXz σ σ') (h : HMo n K S D σ) : HMo n K S D σ' := ⟨h.1, h.2.1, h.2.2.1, h.2.2.2.1, h.2.2.2.2.1, MS_z f h.2.2.2.2.2.1, MDy_z f h.2.2.2.2.2.2⟩
theorem absM {n j : Nat} {K : Int} {S : Stc} {D : Dyn} {σ : Sg} {a : Int32} (sb : SBd n S) (db : DBd n K D) (hK : K ≤ 100000) (hs : MS n S σ) (hd : MDy n D σ) (ha : a.toInt = (j : Int)) (hj : j ≤ 60) :
    Rt (F_X12_allBehind a σ) (fun r σ' => r.toInt = tot n (aMins S j D) ∧ FXz σ σ') := by
  have n6 := sb.1
  unfold F_X12_allBehind
  refine Rt_fs (savM n6 hs hd) (fun σ1 ⟨k1, s1, d1, h1, z1⟩ => ?_)
  refine Rt_fs (gosM9 sb ha hj hK db s1.2 d1) (fun σ2 ⟨d2, f2, _⟩ => ?_)
  obtain ⟨r, e, v⟩ := allM n6 (MS_q f2 s1).1 (aMins_b sb j D K db) d2
  refine Rt_fe e ?_
  exact Rt_fs (putM (KP_q n6 k1 f2)) (fun σ5 z5 => Rt_p ⟨v, z5⟩)
theorem MS_si {n a k : Nat} {S : Stc} {σ : Sg} {v : Int32} (h : (105 ≤ a ∧ a ≤ 108) ∨ (138 ≤ a ∧ a ≤ 140)) (hs : MS n S σ) : MS n S (si σ a k v) := MS_eq (fun id j h9 => gi_si_ne (Or.inl (by omega))) hs
theorem astM {n j m : Nat} {K r : Int} {S : Stc} {D : Dyn} {σ : Sg} {a x y : Int32} (sb : SBd n S) (db : DBd n K D) (hK : K ≤ 100000) (hs : MS n S σ) (hd : MDy n D σ) (hx : x.toInt = (m : Int)) (hm : m < n) (h99 : D_st D m ≤ 99) (hy : y.toInt = r) (hr : 0 ≤ r ∧ r ≤ 20) (ha : a.toInt = (j : Int)) (hj : j ≤ 60) :
    Rt (F_X12_allStopped x y a σ) (fun q σ' => q.toInt = tot n (aMins S j (aStp m r D)) ∧ FXz σ σ') := by
  have n6 := sb.1
  have ex := cl_eq (x := x) (by omega)
  unfold F_X12_allStopped
  rw [show x.toNatClampNeg = m from by omega]
  refine Rt_fs (savM n6 hs hd) (fun σ1 ⟨k1, s1, d1, h1, z1⟩ => ?_)
  refine Rt_fl (fun σ4 e4 => ?_)
  have k4 : KP σ σ4 := by rw [e4]; exact KP_si (by omega) k1
  have s4 : MS n S σ4 := by rw [e4]; exact MS_si (by omega) s1
  have d4 : MDy n (aStp m r D) σ4 := by rw [e4]; exact stpM db hm hy hr d1
  have db4 := aStp_b db h99 hm hr
  refine Rt_fs (gosM9 sb ha hj hK db4 s4.2 d4) (fun σ2 ⟨d2, f2, _⟩ => ?_)
  obtain ⟨q, e, v⟩ := allM n6 (MS_q f2 s4).1 (aMins_b sb j _ K db4) d2
  refine Rt_fe e ?_
  exact Rt_fs (putM (KP_q n6 k4 f2)) (fun σ5 z5 => Rt_p ⟨v, z5⟩)
/-! on -/
noncomputable def r_on (n : Nat) (S : Stc) (D : Dyn) (a1 a2 : Int) : Int :=
  if a2 = 0 ∨ (10 ≤ a2 ∧ a2 ≤ 9 + (n : Int)) ∨ (20 ≤ a2 ∧ a2 ≤ 19 + (n : Int)) then
    (if 0 ≤ a1 ∧ a1 ≤ 60 then (if a2 = 0 then tot n (aMins S a1.toNat D) else if 20 ≤ a2 then aHel S a1.toNat D (a2 - 20).toNat else D_at (aMins S a1.toNat D) (a2 - 10).toNat) else -2)
  else -1
theorem on40M {n : Nat} {K : Int} {S : Stc} {D : Dyn} {σ : Sg} {a1 a2 : Int32} (h : HMo n K S D σ) (q : a2.toInt = 0 ∨ (10 ≤ a2.toInt ∧ a2.toInt ≤ 9 + (n : Int)) ∨ (20 ≤ a2.toInt ∧ a2.toInt ≤ 19 + (n : Int))) :
    Rt (LF_X12_on 9 a1 a2 σ) (fun r σ' => r.toInt = r_on n S D a1.toInt a2.toInt ∧ FXz σ σ') := by
  obtain ⟨sb, db, hK, hr, h99, hs, hd⟩ := h
  have n6 := sb.1
  show Rt (LB_X12_on_40 (LF_X12_on 8) a1 a2 σ) _
  unfold LB_X12_on_40 r_on
  rw [if_pos q]
  refine Rt_fe F_in ?_
  by_cases c : 0 ≤ a1.toInt ∧ a1.toInt ≤ 60
  · rw [if_pos (show (0 : Int32).toInt ≤ a1.toInt ∧ a1.toInt ≤ (60 : Int32).toInt from c), if_pos c]
    refine Rt_f (by decide +kernel) ?_
    obtain ⟨j, hj⟩ : ∃ j : Nat, a1.toInt = (j : Int) := ⟨a1.toInt.toNat, by omega⟩
    rw [hj, show ((j : Int)).toNat = j from by omega]
    refine Rt_fs (savM n6 hs hd) (fun σ1 ⟨k1, s1, d1, h1, z1⟩ => ?_)
    refine Rt_fs (gosM9 sb hj (by omega) (by omega) db s1.2 d1) (fun σ2 ⟨d2, f2, t2⟩ => ?_)
    have k2 := KP_q n6 k1 f2
    have s2 := MS_q f2 s1
    by_cases c0 : a2.toInt = 0
    · refine Rt_t (i_eq c0) ?_
      rw [if_pos c0]
      obtain ⟨r, e, v⟩ := allM n6 s2.1 (aMins_b sb j D K db) d2
      refine Rt_fe e ?_
      exact Rt_fs (putM k2) (fun σ5 z5 => Rt_p ⟨v, z5⟩)
    · refine Rt_f (i_ne c0) ?_
      rw [if_neg c0]
      by_cases c1 : 20 ≤ a2.toInt
      · refine Rt_t (i_le (show (20 : Int) ≤ a2.toInt from c1)) ?_
        rw [if_pos c1]
        have x1 : (a2 - (20 : Int32)).toInt = a2.toInt - 20 := by rw [i_sub (y := (20 : Int32)) (by show (_ : Int) ≤ _ - 20; omega) (by show _ - 20 ≤ (_ : Int); omega)]; rfl
        have ex := cl_eq (x := a2 - (20 : Int32)) (by omega)
        refine Rt_fl (fun v9 e9 => ?_)
        refine Rt_fs (putM k2) (fun σ5 z5 => Rt_p ⟨?_, z5⟩)
        have t := t2 0 (fun _ => 0) (by omega) h1 (a2.toInt - 20).toNat (by omega)
        rw [e9, show (a2 - (20 : Int32)).toNatClampNeg = (a2.toInt - 20).toNat from by omega]
        exact t.2.trans (Int.zero_add _)
      · refine Rt_f (i_nle (show a2.toInt < (20 : Int) by omega)) ?_
        rw [if_neg c1]
        have x1 : (a2 - (10 : Int32)).toInt = a2.toInt - 10 := by rw [i_sub (y := (10 : Int32)) (by show (_ : Int) ≤ _ - 10; omega) (by show _ - 10 ≤ (_ : Int); omega)]; rfl
        have ex := cl_eq (x := a2 - (10 : Int32)) (by omega)
        refine Rt_fl (fun v9 e9 => ?_)
        refine Rt_fs (putM k2) (fun σ5 z5 => Rt_p ⟨?_, z5⟩)
        rw [e9, show (a2 - (10 : Int32)).toNatClampNeg = (a2.toInt - 10).toNat from by omega]
        exact d2.2.1 _ (by omega)
  · rw [if_neg (show ¬ ((0 : Int32).toInt ≤ a1.toInt ∧ a1.toInt ≤ (60 : Int32).toInt) from c), if_neg c]
    exact Rt_t rfl (Rt_p ⟨rfl, FXz_rf⟩)
theorem i_addl {x : Int32} {c : Int32} {k : Int} (hc : c.toInt = k) (h1 : -2147483648 ≤ k + x.toInt) (h2 : k + x.toInt ≤ 2147483647) : (c + x).toInt = k + x.toInt := by rw [i_add (by omega) (by omega), hc]
theorem onM {n : Nat} {K : Int} {S : Stc} {D : Dyn} {σ : Sg} {a1 a2 : Int32} (h : HMo n K S D σ) :
    Rt (F_X12_on a1 a2 σ) (fun r σ' => r.toInt = r_on n S D a1.toInt a2.toInt ∧ FXz σ σ') := by
  have n6 := h.1.1
  have hn := h.2.2.2.2.2.1.1
  unfold F_X12_on
  by_cases c0 : a2.toInt = 0
  · exact Rt_t (i_eq c0) (on40M h (Or.inl c0))
  refine Rt_f (i_ne c0) ?_
  refine Rt_fe F_in ?_
  have e9 : ((9 : Int32) + gi σ 74 0).toInt = 9 + (n : Int) := by rw [i_addl (k := 9) rfl (by omega) (by omega), hn]
  have e19 : ((19 : Int32) + gi σ 74 0).toInt = 19 + (n : Int) := by rw [i_addl (k := 19) rfl (by omega) (by omega), hn]
  by_cases c1 : 10 ≤ a2.toInt ∧ a2.toInt ≤ 9 + (n : Int)
  · rw [if_pos (show (10 : Int32).toInt ≤ a2.toInt ∧ a2.toInt ≤ ((9 : Int32) + gi σ 74 0).toInt from ⟨c1.1, by omega⟩)]
    exact Rt_f (by decide +kernel) (on40M h (Or.inr (Or.inl c1)))
  rw [if_neg (show ¬ ((10 : Int32).toInt ≤ a2.toInt ∧ a2.toInt ≤ ((9 : Int32) + gi σ 74 0).toInt) from fun z => c1 ⟨z.1, by have := z.2; omega⟩)]
  refine Rt_t rfl ?_
  refine Rt_fe F_in ?_
  by_cases c2 : 20 ≤ a2.toInt ∧ a2.toInt ≤ 19 + (n : Int)
  · rw [if_pos (show (20 : Int32).toInt ≤ a2.toInt ∧ a2.toInt ≤ ((19 : Int32) + gi σ 74 0).toInt from ⟨c2.1, by omega⟩)]
    exact Rt_f (by decide +kernel) (on40M h (Or.inr (Or.inr c2)))
  rw [if_neg (show ¬ ((20 : Int32).toInt ≤ a2.toInt ∧ a2.toInt ≤ ((19 : Int32) + gi σ 74 0).toInt) from fun z => c2 ⟨z.1, by have := z.2; omega⟩)]
  refine Rt_t rfl (Rt_p ⟨?_, FXz_rf⟩)
  unfold r_on
  rw [if_neg (fun z => by rcases z with z | z | z; exact c0 z; exact c1 z; exact c2 z)]; rfl
/-! done -/
noncomputable def r_done (n : Nat) (S : Stc) : Nat → Nat → Dyn → Int
  | 0, _, _ => -5
  | j + 1, k, D => if aDn (aLg (S_cl S)) (D_at D) n 0 = true then (k : Int) else r_done n S j (k + 1) (aMin S D).2
theorem donLpM {n : Nat} {S : Stc} {σ0 : Sg} (sb : SBd n S) : ∀ (j k N : Nat) (x : Int32) (D : Dyn) (K : Int) (σ : Sg), j + k = 121 → 2 * j + 2 ≤ N → x.toInt = (k : Int) → K + (j : Int) ≤ 100000 → DBd n K D → MS n S σ → MDy n D σ → KP σ0 σ →
    Rt (LF_X12_done N 0 x σ) (fun r σ' => r.toInt = r_done n S j k D ∧ FXz σ0 σ') := by
  have n6 := sb.1
  intro j
  induction j with
  | zero =>
    intro k N x D K σ hj hN hx hK db hs hd hk
    obtain ⟨N, rfl⟩ : ∃ i, N = i + 2 := ⟨N - 2, by omega⟩
    show Rt (LB_X12_done_6 (LF_X12_done (N + 1)) x σ) _
    unfold LB_X12_done_6
    refine Rt_t (i_lt (show (120 : Int) < _ by omega)) ?_
    show Rt (LB_X12_done_30 (LF_X12_done N) x σ) _
    unfold LB_X12_done_30
    refine Rt_fs (putM hk) (fun σ1 z1 => ?_)
    exact Rt_t (i_lt (show (120 : Int) < _ by omega)) (Rt_p ⟨rfl, z1⟩)
  | succ j ih =>
    intro k N x D K σ hj hN hx hK db hs hd hk
    obtain ⟨N, rfl⟩ : ∃ i, N = i + 2 := ⟨N - 2, by omega⟩
    show Rt (LB_X12_done_6 (LF_X12_done (N + 1)) x σ) (fun r σ' => r.toInt = (if aDn (aLg (S_cl S)) (D_at D) n 0 = true then (k : Int) else r_done n S j (k + 1) (aMin S D).2) ∧ FXz σ0 σ')
    unfold LB_X12_done_6
    refine Rt_f (i_nlt (show _ ≤ (120 : Int) by omega)) ?_
    refine Rt_fe (donM sb hs hd) ?_
    by_cases c : aDn (aLg (S_cl S)) (D_at D) n 0 = true
    · rw [c, if_pos rfl]
      refine Rt_f (by decide +kernel) ?_
      show Rt (LB_X12_done_30 (LF_X12_done N) x σ) _
      unfold LB_X12_done_30
      refine Rt_fs (putM hk) (fun σ1 z1 => ?_)
      exact Rt_f (i_nlt (show _ ≤ (120 : Int) by omega)) (Rt_p ⟨hx, z1⟩)
    · rw [Bool.eq_false_iff.mpr c, if_neg (show ¬ (false = true) by decide +kernel)]
      refine Rt_t rfl ?_
      refine Rt_fs (gosM9 (j := 1) sb rfl (by decide +kernel) (by omega) db hs.2 hd) (fun σ5 ⟨d5, f5, _⟩ => ?_)
      refine Rt_fl (fun v6 e6 => ?_)
      exact ih (k + 1) (N + 1) v6 (aMin S D).2 (K + 1) σ5 (by omega) (by omega) (by rw [e6, i_inc (by omega)]; omega) (by omega) (aMin_b sb db) (MS_q f5 hs) d5 (KP_q n6 hk f5)
theorem doneM {n : Nat} {K : Int} {S : Stc} {D : Dyn} {σ : Sg} (h : HMo n K S D σ) : Rt (F_X12_done σ) (fun r σ' => r.toInt = r_done n S 121 0 D ∧ FXz σ σ') := by
  obtain ⟨sb, db, hK, hr, h99, hs, hd⟩ := h
  unfold F_X12_done
  exact Rt_fs (savM sb.1 hs hd) (fun σ1 ⟨k1, s1, d1, h1, z1⟩ => donLpM sb 121 0 400 (0 : Int32) D K σ1 rfl (by decide +kernel) rfl (by omega) db s1 d1 k1)
/-! whets -/
noncomputable def aTw (S : Stc) (k : Nat) : Nat → Nat → Dyn → Dyn
  | 0, _, D => D
  | j + 1, i, D => aTw S k j (i + 1) (if k < 16 ∧ i % k = 0 then aWhe D else (aMin S D).2)
theorem aTw_b {n : Nat} {S : Stc} {k : Nat} (h : SBd n S) : ∀ (j i : Nat) (D : Dyn) (K : Int), DBd n K D → DBd n (K + j) (aTw S k j i D) := by
  intro j
  induction j with
  | zero => intro i D K d; rw [show K + ((0 : Nat) : Int) = K from by omega]; exact d
  | succ j ih =>
    intro i D K d
    rw [show K + ((j + 1 : Nat) : Int) = K + 1 + (j : Int) from by omega]
    refine ih _ _ _ ?_
    split
    · exact aWhe_b d
    · exact aMin_b h d
theorem whdLM {n k : Nat} {S : Stc} {σ0 : Sg} {x1 x2 : Int32} {N0 : Nat} (sb : SBd n S) (h1 : x1.toInt = (N0 : Int)) (h60 : N0 ≤ 60) (h2 : x2.toInt = (k : Int)) (hk1 : 1 ≤ k) : ∀ (j i N : Nat) (x3 : Int32) (D : Dyn) (K : Int) (σ : Sg), i + j = N0 + 1 → j < N → x3.toInt = (i : Int) → 1 ≤ i → K + (j : Int) ≤ 100000 → DBd n K D → MS n S σ → MDy n D σ → KP σ0 σ →
    Rt (LF_X12_whetted N x1 x2 x3 σ) (fun r σ' => r.toInt = tot n (aTw S k j i D) ∧ FXz σ0 σ') := by
  have n6 := sb.1
  intro j
  induction j with
  | zero =>
    intro i N x3 D K σ hj hN hx hi hK db hs hd hk
    obtain ⟨N, rfl⟩ : ∃ i, N = i + 1 := ⟨N - 1, by omega⟩
    show Rt (LB_X12_whetted_6 (LF_X12_whetted N) x1 x2 x3 σ) _
    unfold LB_X12_whetted_6
    refine Rt_t (i_lt (by omega)) ?_
    obtain ⟨r, e, v⟩ := allM n6 hs.1 db hd
    refine Rt_fe e ?_
    exact Rt_fs (putM hk) (fun σ5 z5 => Rt_p ⟨v, z5⟩)
  | succ j ih =>
    intro i N x3 D K σ hj hN hx hi hK db hs hd hk
    obtain ⟨N, rfl⟩ : ∃ i, N = i + 1 := ⟨N - 1, by omega⟩
    show Rt (LB_X12_whetted_6 (LF_X12_whetted N) x1 x2 x3 σ) (fun r σ' => r.toInt = tot n (aTw S k j (i + 1) (if k < 16 ∧ i % k = 0 then aWhe D else (aMin S D).2)) ∧ FXz σ0 σ')
    unfold LB_X12_whetted_6
    refine Rt_f (i_nlt (by omega)) ?_
    have go : Rt (fl (F_X12_goMinutes (1 : Int32) σ) (fun σ6 => fl (x3 + 1) (fun v7 => LF_X12_whetted N x1 x2 v7 σ6))) (fun r σ' => r.toInt = tot n (aTw S k j (i + 1) (aMin S D).2) ∧ FXz σ0 σ') := by
      refine Rt_fs (gosM9 (j := 1) sb rfl (by decide +kernel) (by omega) db hs.2 hd) (fun σ5 ⟨d5, f5, _⟩ => ?_)
      refine Rt_fl (fun v6 e6 => ?_)
      exact ih (i + 1) N v6 (aMin S D).2 (K + 1) σ5 (by omega) (by omega) (by rw [e6, i_inc (by omega)]; omega) (by omega) (by omega) (aMin_b sb db) (MS_q f5 hs) d5 (KP_q n6 hk f5)
    by_cases c : 16 ≤ k
    · refine Rt_t (i_le (show (16 : Int) ≤ _ by omega)) ?_
      rw [if_neg (show ¬ (k < 16 ∧ i % k = 0) by omega)]
      exact go
    · refine Rt_f (i_nle (show _ < (16 : Int) by omega)) ?_
      have rm : (x3 - x3 / x2 * x2).toInt = ((i % k : Nat) : Int) := by rw [i_rem (k := (k : Int)) (by omega) (by omega) h2, hx]; omega
      by_cases d : i % k = 0
      · rw [if_pos (show k < 16 ∧ i % k = 0 from ⟨by omega, d⟩)]
        refine Rt_t (i_eq (show _ = (0 : Int) by omega)) ?_
        refine Rt_fs (whetM sb db (by omega) hs hd) (fun σ5 ⟨d5, f5⟩ => ?_)
        refine Rt_fl (fun v6 e6 => ?_)
        exact ih (i + 1) N v6 (aWhe D) (K + 1) σ5 (by omega) (by omega) (by rw [e6, i_inc (by omega)]; omega) (by omega) (by omega) (aWhe_b db) (MS_q f5 hs) d5 (KP_q n6 hk f5)
      · rw [if_neg (show ¬ (k < 16 ∧ i % k = 0) from fun z => d z.2)]
        refine Rt_f (i_ne (show _ ≠ (0 : Int) by omega)) ?_
        exact go
theorem whdM {n k j : Nat} {K : Int} {S : Stc} {D : Dyn} {σ : Sg} {x1 x2 : Int32} (h : HMo n K S D σ) (h1 : x1.toInt = (j : Int)) (h60 : j ≤ 60) (h2 : x2.toInt = (k : Int)) (hk1 : 1 ≤ k) : Rt (F_X12_whetted x1 x2 σ) (fun r σ' => r.toInt = tot n (aTw S k j 1 D) ∧ FXz σ σ') := by
  obtain ⟨sb, db, hK, hr, h99, hs, hd⟩ := h
  unfold F_X12_whetted
  exact Rt_fs (savM sb.1 hs hd) (fun σ1 ⟨k1, s1, d1, t1, z1⟩ => whdLM sb h1 h60 h2 hk1 j 1 90 (1 : Int32) D K σ1 (by omega) (by omega) rfl (by omega) (by omega) db s1 d1 k1)
theorem whtLM {n j : Nat} {K : Int} {S : Stc} {D : Dyn} {x1 x2 : Int32} (h1 : x1.toInt = (j : Int)) (h60 : j ≤ 60) : ∀ (i k N : Nat) (x3 x4 x5 : Int32) (b m : Int) (σ : Sg), i + k = 17 → 1 ≤ k → i < N → x3.toInt = b → x4.toInt = m → x5.toInt = (k : Int) → HMo n K S D σ →
    Rt (LF_X12_whets N x1 x2 x3 x4 x5 σ) (fun r σ' => r.toInt = (if x2.toInt = 0 then (aBst (fun k => tot n (aTw S k j 1 D)) i k b m).1 else (aBst (fun k => tot n (aTw S k j 1 D)) i k b m).2) ∧ FXz σ σ') := by
  intro i
  induction i with
  | zero =>
    intro k N x3 x4 x5 b m σ hi hk hN h3 h4 h5 h
    obtain ⟨N, rfl⟩ : ∃ i, N = i + 1 := ⟨N - 1, by omega⟩
    show Rt (LB_X12_whets_34 (LF_X12_whets N) x1 x2 x3 x4 x5 σ) _
    unfold LB_X12_whets_34
    refine Rt_t (i_le (show (17 : Int) ≤ _ by omega)) ?_
    by_cases c : x2.toInt = 0
    · rw [if_pos c]; exact Rt_t (i_eq c) (Rt_p ⟨h3, FXz_rf⟩)
    · rw [if_neg c]; exact Rt_f (i_ne c) (Rt_p ⟨h4, FXz_rf⟩)
  | succ i ih =>
    intro k N x3 x4 x5 b m σ hi hk hN h3 h4 h5 h
    obtain ⟨N, rfl⟩ : ∃ i, N = i + 1 := ⟨N - 1, by omega⟩
    show Rt (LB_X12_whets_34 (LF_X12_whets N) x1 x2 x3 x4 x5 σ) _
    unfold LB_X12_whets_34
    refine Rt_f (i_nle (show _ < (17 : Int) by omega)) ?_
    refine Rt_fb (whdM h h1 h60 h5 hk) (fun r4 σ3 ⟨v, z⟩ => ?_)
    rw [aBst_s]
    by_cases c : m < tot n (aTw S k j 1 D)
    · refine Rt_t (i_lt (by omega)) ?_
      rw [if_pos c]
      refine Rt_fl (fun v6 e6 => ?_)
      exact Rt_w (ih (k + 1) N x5 r4 v6 _ _ σ3 (by omega) (by omega) (by omega) h5 v (by rw [e6, i_inc (by omega)]; omega) (HMo_z z h)) (fun r σ' q => ⟨q.1, FXz_tr z q.2⟩)
    · refine Rt_f (i_nlt (by omega)) ?_
      rw [if_neg c]
      refine Rt_fl (fun v6 e6 => ?_)
      exact Rt_w (ih (k + 1) N x3 x4 v6 _ _ σ3 (by omega) (by omega) (by omega) h3 h4 (by rw [e6, i_inc (by omega)]; omega) (HMo_z z h)) (fun r σ' q => ⟨q.1, FXz_tr z q.2⟩)
noncomputable def r_whets (n : Nat) (S : Stc) (D : Dyn) (a1 a2 : Int) : Int :=
  if 0 ≤ a2 ∧ a2 ≤ 1 then (if 1 ≤ a1 ∧ a1 ≤ 60 then (if a2 = 0 then (aBst (fun k => tot n (aTw S k a1.toNat 1 D)) 16 1 0 (-1)).1 else (aBst (fun k => tot n (aTw S k a1.toNat 1 D)) 16 1 0 (-1)).2) else -2) else -1
theorem whetsM {n : Nat} {K : Int} {S : Stc} {D : Dyn} {σ : Sg} {a1 a2 : Int32} (h : HMo n K S D σ) : Rt (F_X12_whets a1 a2 σ) (fun r σ' => r.toInt = r_whets n S D a1.toInt a2.toInt ∧ FXz σ σ') := by
  unfold F_X12_whets r_whets
  refine Rt_fe F_in ?_
  by_cases c : 0 ≤ a2.toInt ∧ a2.toInt ≤ 1
  · rw [if_pos (show (0 : Int32).toInt ≤ a2.toInt ∧ a2.toInt ≤ (1 : Int32).toInt from c), if_pos c]
    refine Rt_f (by decide +kernel) ?_
    refine Rt_fe F_in ?_
    by_cases d : 1 ≤ a1.toInt ∧ a1.toInt ≤ 60
    · rw [if_pos (show (1 : Int32).toInt ≤ a1.toInt ∧ a1.toInt ≤ (60 : Int32).toInt from d), if_pos d]
      refine Rt_f (by decide +kernel) ?_
      obtain ⟨j, hj⟩ : ∃ j : Nat, a1.toInt = (j : Int) := ⟨a1.toInt.toNat, by omega⟩
      rw [hj, show ((j : Int)).toNat = j from by omega]
      exact whtLM hj (by omega) 16 1 20 (0 : Int32) (-1 : Int32) (1 : Int32) 0 (-1) σ (by decide +kernel) (by decide +kernel) (by decide +kernel) rfl rfl rfl h
    · rw [if_neg (show ¬ ((1 : Int32).toInt ≤ a1.toInt ∧ a1.toInt ≤ (60 : Int32).toInt) from d), if_neg d]
      exact Rt_t rfl (Rt_p ⟨rfl, FXz_rf⟩)
  · rw [if_neg (show ¬ ((0 : Int32).toInt ≤ a2.toInt ∧ a2.toInt ≤ (1 : Int32).toInt) from c), if_neg c]
    exact Rt_t rfl (Rt_p ⟨rfl, FXz_rf⟩)
/-! what the model answers: apart, rest, paused, planned -/
noncomputable def sGp (g : Int) (S : Stc) : Stc := (S.1, S.2.1, S.2.2.1, S.2.2.2.1, S.2.2.2.2.1, g, S.2.2.2.2.2.2.1, S.2.2.2.2.2.2.2)
theorem SBd_gp {n : Nat} {S : Stc} {g : Int} (h : SBd n S) (hg : 0 ≤ g ∧ g ≤ 99) : SBd n (sGp g S) := ⟨h.1, h.2.1, h.2.2.1, h.2.2.2.1, h.2.2.2.2.1, hg, h.2.2.2.2.2.2⟩
theorem MT_gp {n : Nat} {S : Stc} {g : Int} {σ σ' : Sg} (e : ∀ id k, (id = 74 ∧ (k = 2 ∨ k = 12)) ∨ id = 103 ∨ id = 104 ∨ id = 109 ∨ id = 110 ∨ (117 ≤ id ∧ id ≤ 122) → gi σ' id k = gi σ id k) (h28 : (gi σ' 74 28).toInt = g) (hg : 0 ≤ g) (h : MT n S σ) : MT n (sGp g S) σ' := by
  obtain ⟨h2, h3, h4, h5, h6, h7, h8, h9⟩ := h
  exact ⟨by rw [e 74 2 (by omega)]; exact h2, fun p hp => by rw [e 110 p (by omega)]; exact h3 p hp, fun m hm => by rw [e 103 m (by omega)]; exact h4 m hm, fun m hm => by rw [e 104 m (by omega)]; exact h5 m hm, fun k hk => by rw [e 109 k (by omega)]; exact h6 k hk, MH_eq (e 74 12 (by omega)) (fun id k a b => e id k (by omega)) h7, h8, Or.inl ⟨by rw [h28]; exact hg, h28.symm⟩⟩
/-- all but the gap told -/
noncomputable def FXg9 (σ σ' : Sg) : Prop := ∀ id k, ¬ Pz id k → ¬ (id = 74 ∧ k = 28) → gi σ' id k = gi σ id k
theorem aptLM {n j : Nat} {K : Int} {S : Stc} {D : Dyn} {x1 x2 : Int32} {σ0 : Sg} (h : HMo n K S D σ0) (h28 : gi σ0 74 28 = (-1 : Int32)) (h1 : x1.toInt = (j : Int)) (h60 : j ≤ 60) : ∀ (i k N : Nat) (x3 x4 x5 : Int32) (b m : Int) (σ : Sg), i + k = 10 → i < N → x3.toInt = b → x4.toInt = m → x5.toInt = (k : Int) → FXg9 σ0 σ →
    Rt (LF_X12_apart N x1 x2 x3 x4 x5 σ) (fun r σ' => r.toInt = (if x2.toInt = 0 then (aBst (fun k => tot n (aMins (sGp k S) j D)) i k b m).1 else (aBst (fun k => tot n (aMins (sGp k S) j D)) i k b m).2) ∧ FXz σ0 σ') := by
  obtain ⟨sb, db, hK, hr, h99, hs, hd⟩ := h
  have n6 := sb.1
  intro i
  induction i with
  | zero =>
    intro k N x3 x4 x5 b m σ hi hN h3 h4 h5 f
    obtain ⟨N, rfl⟩ : ∃ i, N = i + 1 := ⟨N - 1, by omega⟩
    show Rt (LB_X12_apart_34 (LF_X12_apart N) x1 x2 x3 x4 x5 σ) _
    unfold LB_X12_apart_34
    refine Rt_t (i_le (show (10 : Int) ≤ _ by omega)) ?_
    refine Rt_fl (fun σ2 e2 => ?_)
    have z : FXz σ0 σ2 := fun id k h => by
      by_cases c : id = 74 ∧ k = 28
      · obtain ⟨rfl, rfl⟩ := c
        rw [e2, gi_si_eq, h28]
      · rw [e2, gi_si_ne (by omega)]; exact f id k h c
    by_cases c : x2.toInt = 0
    · rw [if_pos c]; exact Rt_t (i_eq c) (Rt_p ⟨h3, z⟩)
    · rw [if_neg c]; exact Rt_f (i_ne c) (Rt_p ⟨h4, z⟩)
  | succ i ih =>
    intro k N x3 x4 x5 b m σ hi hN h3 h4 h5 f
    obtain ⟨N, rfl⟩ : ∃ i, N = i + 1 := ⟨N - 1, by omega⟩
    show Rt (LB_X12_apart_34 (LF_X12_apart N) x1 x2 x3 x4 x5 σ) _
    unfold LB_X12_apart_34
    refine Rt_f (i_nle (show _ < (10 : Int) by omega)) ?_
    refine Rt_fl (fun σ4 e4 => ?_)
    have g4 : ∀ id k, ¬ Pz id k → ¬ (id = 74 ∧ k = 28) → gi σ4 id k = gi σ0 id k := fun id k a b => by rw [e4, gi_si_ne (by omega)]; exact f id k a b
    have s4 : MT n (sGp k S) σ4 := MT_gp (σ := σ0) (fun id j a => g4 id j (by unfold Pz; omega) (by omega)) (by rw [e4, gi_si_eq]; exact h5) (by omega) hs.2
    have s4' : MS n (sGp k S) σ4 := ⟨by rw [g4 74 0 (by unfold Pz; omega) (by omega)]; exact hs.1, s4⟩
    have d4 : MDy n D σ4 := MDy_eq (fun id j a => g4 id j (by unfold Pz; omega) (by omega)) hd
    refine Rt_fb (absM (SBd_gp sb (by omega)) db (by omega) s4' d4 h1 h60) (fun r6 σ5 ⟨v, z⟩ => ?_)
    have f5 : FXg9 σ0 σ5 := fun id k a b => (z id k a).trans (g4 id k a b)
    rw [aBst_s]
    by_cases c : m < tot n (aMins (sGp k S) j D)
    · refine Rt_t (i_lt (by omega)) ?_
      rw [if_pos c]
      refine Rt_fl (fun v6 e6 => ?_)
      exact ih (k + 1) N x5 r6 v6 _ _ σ5 (by omega) (by omega) h5 v (by rw [e6, i_inc (by omega)]; omega) f5
    · refine Rt_f (i_nlt (by omega)) ?_
      rw [if_neg c]
      refine Rt_fl (fun v6 e6 => ?_)
      exact ih (k + 1) N x3 x4 v6 _ _ σ5 (by omega) (by omega) h3 h4 (by rw [e6, i_inc (by omega)]; omega) f5
noncomputable def r_apart (n : Nat) (S : Stc) (D : Dyn) (a1 a2 : Int) : Int :=
  if 0 ≤ a2 ∧ a2 ≤ 1 then (if 1 ≤ a1 ∧ a1 ≤ 60 then (if a2 = 0 then (aBst (fun k => tot n (aMins (sGp k S) a1.toNat D)) 10 0 0 (-1)).1 else (aBst (fun k => tot n (aMins (sGp k S) a1.toNat D)) 10 0 0 (-1)).2) else -2) else -1
theorem apartM {n : Nat} {K : Int} {S : Stc} {D : Dyn} {σ : Sg} {a1 a2 : Int32} (h : HMo n K S D σ) (h28 : gi σ 74 28 = (-1 : Int32)) : Rt (F_X12_apart a1 a2 σ) (fun r σ' => r.toInt = r_apart n S D a1.toInt a2.toInt ∧ FXz σ σ') := by
  unfold F_X12_apart r_apart
  refine Rt_fe F_in ?_
  by_cases c : 0 ≤ a2.toInt ∧ a2.toInt ≤ 1
  · rw [if_pos (show (0 : Int32).toInt ≤ a2.toInt ∧ a2.toInt ≤ (1 : Int32).toInt from c), if_pos c]
    refine Rt_f (by decide +kernel) ?_
    refine Rt_fe F_in ?_
    by_cases d : 1 ≤ a1.toInt ∧ a1.toInt ≤ 60
    · rw [if_pos (show (1 : Int32).toInt ≤ a1.toInt ∧ a1.toInt ≤ (60 : Int32).toInt from d), if_pos d]
      refine Rt_f (by decide +kernel) ?_
      obtain ⟨j, hj⟩ : ∃ j : Nat, a1.toInt = (j : Int) := ⟨a1.toInt.toNat, by omega⟩
      rw [hj, show ((j : Int)).toNat = j from by omega]
      exact aptLM h h28 hj (by omega) 10 0 20 (0 : Int32) (-1 : Int32) (0 : Int32) 0 (-1) σ (by decide +kernel) (by decide +kernel) rfl rfl rfl (fun _ _ _ _ => rfl)
    · rw [if_neg (show ¬ ((1 : Int32).toInt ≤ a1.toInt ∧ a1.toInt ≤ (60 : Int32).toInt) from d), if_neg d]
      exact Rt_t rfl (Rt_p ⟨rfl, FXz_rf⟩)
  · rw [if_neg (show ¬ ((0 : Int32).toInt ≤ a2.toInt ∧ a2.toInt ≤ (1 : Int32).toInt) from c), if_neg c]
    exact Rt_t rfl (Rt_p ⟨rfl, FXz_rf⟩)
/-! rest -/
theorem rstLM {n j : Nat} {K : Int} {S : Stc} {D : Dyn} {x1 x2 : Int32} (h1 : x1.toInt = (j : Int)) (h60 : j ≤ 60) : ∀ (i k N : Nat) (x3 x4 x5 : Int32) (b m : Int) (σ : Sg), i + k = n → i < N → x4.toInt = b → x3.toInt = m → x5.toInt = (k : Int) → HMo n K S D σ →
    Rt (LF_X12_rest N x1 x2 x3 x4 x5 σ) (fun r σ' => r.toInt = (if (aBst (fun k => tot n (aMins S j (aStp k 5 D))) i k b m).1 < 0 ∨ x2.toInt = 0 then (aBst (fun k => tot n (aMins S j (aStp k 5 D))) i k b m).1 else (aBst (fun k => tot n (aMins S j (aStp k 5 D))) i k b m).2) ∧ FXz σ σ') := by
  intro i
  induction i with
  | zero =>
    intro k N x3 x4 x5 b m σ hi hN h4 h3 h5 h
    have hn := h.2.2.2.2.2.1.1
    obtain ⟨N, rfl⟩ : ∃ i, N = i + 1 := ⟨N - 1, by omega⟩
    show Rt (LB_X12_rest_39 (LF_X12_rest N) x1 x2 x3 x4 x5 σ) (fun r σ' => r.toInt = (if b < 0 ∨ x2.toInt = 0 then b else m) ∧ FXz σ σ')
    unfold LB_X12_rest_39
    refine Rt_t (i_le (by omega)) ?_
    by_cases c0 : b < 0
    · rw [if_pos (show b < 0 ∨ x2.toInt = 0 from Or.inl c0)]; exact Rt_t (i_lt0 (by omega)) (Rt_p ⟨h4, FXz_rf⟩)
    refine Rt_f (i_nlt0 (by omega)) ?_
    by_cases c : x2.toInt = 0
    · rw [if_pos (show b < 0 ∨ x2.toInt = 0 from Or.inr c)]; exact Rt_t (i_eq c) (Rt_p ⟨h4, FXz_rf⟩)
    · rw [if_neg (show ¬ (b < 0 ∨ x2.toInt = 0) from fun z => z.elim c0 c)]; exact Rt_f (i_ne c) (Rt_p ⟨h3, FXz_rf⟩)
  | succ i ih =>
    intro k N x3 x4 x5 b m σ hi hN h4 h3 h5 h
    have hn := h.2.2.2.2.2.1.1
    have n6 := h.1.1
    obtain ⟨N, rfl⟩ : ∃ i, N = i + 1 := ⟨N - 1, by omega⟩
    show Rt (LB_X12_rest_39 (LF_X12_rest N) x1 x2 x3 x4 x5 σ) _
    unfold LB_X12_rest_39
    refine Rt_f (i_nle (by omega)) ?_
    refine Rt_fb (astM (m := k) (r := 5) h.1 h.2.1 (by have := h.2.2.1; omega) h.2.2.2.2.2.1 h.2.2.2.2.2.2 h5 (by omega) (h.2.2.2.2.1 k (by omega)) rfl (by decide +kernel) h1 h60) (fun r4 σ3 ⟨v, z⟩ => ?_)
    rw [aBst_s]
    by_cases c : m < tot n (aMins S j (aStp k 5 D))
    · refine Rt_t (i_lt (by omega)) ?_
      rw [if_pos c]
      refine Rt_fl (fun v6 e6 => ?_)
      exact Rt_w (ih (k + 1) N r4 x5 v6 _ _ σ3 (by omega) (by omega) h5 v (by rw [e6, i_inc (by omega)]; omega) (HMo_z z h)) (fun r σ' q => ⟨q.1, FXz_tr z q.2⟩)
    · refine Rt_f (i_nlt (by omega)) ?_
      rw [if_neg c]
      refine Rt_fl (fun v6 e6 => ?_)
      exact Rt_w (ih (k + 1) N x3 x4 v6 _ _ σ3 (by omega) (by omega) h4 h3 (by rw [e6, i_inc (by omega)]; omega) (HMo_z z h)) (fun r σ' q => ⟨q.1, FXz_tr z q.2⟩)
noncomputable def r_rest (n : Nat) (S : Stc) (D : Dyn) (a1 a2 : Int) : Int :=
  if 0 ≤ a2 ∧ a2 ≤ 1 then (if 1 ≤ a1 ∧ a1 ≤ 60 then (if (aBst (fun k => tot n (aMins S a1.toNat (aStp k 5 D))) n 0 (-5) (tot n (aMins S a1.toNat D))).1 < 0 ∨ a2 = 0 then (aBst (fun k => tot n (aMins S a1.toNat (aStp k 5 D))) n 0 (-5) (tot n (aMins S a1.toNat D))).1 else (aBst (fun k => tot n (aMins S a1.toNat (aStp k 5 D))) n 0 (-5) (tot n (aMins S a1.toNat D))).2) else -2) else -1
theorem restM {n : Nat} {K : Int} {S : Stc} {D : Dyn} {σ : Sg} {a1 a2 : Int32} (h : HMo n K S D σ) : Rt (F_X12_rest a1 a2 σ) (fun r σ' => r.toInt = r_rest n S D a1.toInt a2.toInt ∧ FXz σ σ') := by
  have n6 := h.1.1
  unfold F_X12_rest r_rest
  refine Rt_fe F_in ?_
  by_cases c : 0 ≤ a2.toInt ∧ a2.toInt ≤ 1
  · rw [if_pos (show (0 : Int32).toInt ≤ a2.toInt ∧ a2.toInt ≤ (1 : Int32).toInt from c), if_pos c]
    refine Rt_f (by decide +kernel) ?_
    refine Rt_fe F_in ?_
    by_cases d : 1 ≤ a1.toInt ∧ a1.toInt ≤ 60
    · rw [if_pos (show (1 : Int32).toInt ≤ a1.toInt ∧ a1.toInt ≤ (60 : Int32).toInt from d), if_pos d]
      refine Rt_f (by decide +kernel) ?_
      obtain ⟨j, hj⟩ : ∃ j : Nat, a1.toInt = (j : Int) := ⟨a1.toInt.toNat, by omega⟩
      rw [hj, show ((j : Int)).toNat = j from by omega]
      refine Rt_fb (absM h.1 h.2.1 (by have := h.2.2.1; omega) h.2.2.2.2.2.1 h.2.2.2.2.2.2 hj (by omega)) (fun r8 σ7 ⟨v, z⟩ => ?_)
      exact Rt_w (rstLM hj (by omega) n 0 20 r8 (-5 : Int32) (0 : Int32) (-5) _ σ7 (by omega) (by omega) rfl v rfl (HMo_z z h)) (fun r σ' q => ⟨q.1, FXz_tr z q.2⟩)
    · rw [if_neg (show ¬ ((1 : Int32).toInt ≤ a1.toInt ∧ a1.toInt ≤ (60 : Int32).toInt) from d), if_neg d]
      exact Rt_t rfl (Rt_p ⟨rfl, FXz_rf⟩)
  · rw [if_neg (show ¬ ((0 : Int32).toInt ≤ a2.toInt ∧ a2.toInt ≤ (1 : Int32).toInt) from c), if_neg c]
    exact Rt_t rfl (Rt_p ⟨rfl, FXz_rf⟩)
/-! paused -/
noncomputable def aPz (S : Stc) (N k : Nat) (D : Dyn) : Dyn := aMins S (N - k) (aPas 5 15 (aMins S k D))
theorem psdLM {n j : Nat} {K : Int} {S : Stc} {D : Dyn} {x1 x2 : Int32} (h1 : x1.toInt = (j : Int)) (h30 : j ≤ 30) : ∀ (i k N : Nat) (x3 x4 x5 : Int32) (b m : Int) (σ : Sg), i + k = j + 1 → i < N → x3.toInt = b → x4.toInt = m → x5.toInt = (k : Int) → HMo n K S D σ →
    Rt (LF_X12_paused N x1 x2 x3 x4 x5 σ) (fun r σ' => r.toInt = (if x2.toInt = 0 then (aBst (fun k => tot n (aPz S j k D)) i k b m).1 else (aBst (fun k => tot n (aPz S j k D)) i k b m).2) ∧ FXz σ σ') := by
  intro i
  induction i with
  | zero =>
    intro k N x3 x4 x5 b m σ hi hN h3 h4 h5 h
    obtain ⟨N, rfl⟩ : ∃ i, N = i + 1 := ⟨N - 1, by omega⟩
    show Rt (LB_X12_paused_34 (LF_X12_paused N) x1 x2 x3 x4 x5 σ) _
    unfold LB_X12_paused_34
    refine Rt_t (i_lt (by omega)) ?_
    by_cases c : x2.toInt = 0
    · rw [if_pos c]; exact Rt_t (i_eq c) (Rt_p ⟨h3, FXz_rf⟩)
    · rw [if_neg c]; exact Rt_f (i_ne c) (Rt_p ⟨h4, FXz_rf⟩)
  | succ i ih =>
    intro k N x3 x4 x5 b m σ hi hN h3 h4 h5 h
    obtain ⟨sb, db, hK, hr, h99, hs, hd⟩ := id h
    have n6 := sb.1
    obtain ⟨N, rfl⟩ : ∃ i, N = i + 1 := ⟨N - 1, by omega⟩
    show Rt (LB_X12_paused_34 (LF_X12_paused N) x1 x2 x3 x4 x5 σ) _
    unfold LB_X12_paused_34
    refine Rt_f (i_nlt (by omega)) ?_
    refine Rt_fs (savM n6 hs hd) (fun σ3 ⟨k3, s3, d3, _, _⟩ => ?_)
    refine Rt_fs (gosM9 sb h5 (by omega) (by omega) db s3.2 d3) (fun σ4 ⟨d4, f4, _⟩ => ?_)
    have s4 := MS_q f4 s3
    have db4 := aMins_b sb k D K db
    refine Rt_fs (pausM (j := 5) sb db4 (by omega) rfl (by decide +kernel) s4 d4) (fun σ5 ⟨d5, f5⟩ => ?_)
    have s5 := MS_q f5 s4
    have db5 := aPas_b (u := 5) (v := 15) db4 (by decide +kernel) (by decide +kernel)
    have jk : (x1 - x5).toInt = ((j - k : Nat) : Int) := by rw [i_sub (by omega) (by omega)]; omega
    refine Rt_fs (gosM9 sb jk (by omega) (by omega) db5 s5.2 d5) (fun σ6 ⟨d6, f6, _⟩ => ?_)
    have s6 := MS_q f6 s5
    obtain ⟨r8, e, v⟩ := allM n6 s6.1 (aMins_b sb (j - k) _ _ db5) d6
    refine Rt_fe e ?_
    refine Rt_fs (putM (KP_q n6 (KP_q n6 (KP_q n6 k3 f4) f5) f6)) (fun σ9 z => ?_)
    replace v : r8.toInt = tot n (aPz S j k D) := v
    rw [aBst_s]
    by_cases c : m < tot n (aPz S j k D)
    · refine Rt_t (i_lt (by omega)) ?_
      rw [if_pos c]
      refine Rt_fl (fun v6 e6 => ?_)
      exact Rt_w (ih (k + 1) N x5 r8 v6 _ _ σ9 (by omega) (by omega) h5 v (by rw [e6, i_inc (by omega)]; omega) (HMo_z z h)) (fun r σ' q => ⟨q.1, FXz_tr z q.2⟩)
    · refine Rt_f (i_nlt (by omega)) ?_
      rw [if_neg c]
      refine Rt_fl (fun v6 e6 => ?_)
      exact Rt_w (ih (k + 1) N x3 x4 v6 _ _ σ9 (by omega) (by omega) h3 h4 (by rw [e6, i_inc (by omega)]; omega) (HMo_z z h)) (fun r σ' q => ⟨q.1, FXz_tr z q.2⟩)
noncomputable def r_paused (n : Nat) (S : Stc) (D : Dyn) (a1 a2 : Int) : Int :=
  if 0 ≤ a2 ∧ a2 ≤ 1 then (if 1 ≤ a1 ∧ a1 ≤ 30 then (if a2 = 0 then (aBst (fun k => tot n (aPz S a1.toNat k D)) (a1.toNat + 1) 0 0 (-1)).1 else (aBst (fun k => tot n (aPz S a1.toNat k D)) (a1.toNat + 1) 0 0 (-1)).2) else -2) else -1
theorem pausedM {n : Nat} {K : Int} {S : Stc} {D : Dyn} {σ : Sg} {a1 a2 : Int32} (h : HMo n K S D σ) : Rt (F_X12_paused a1 a2 σ) (fun r σ' => r.toInt = r_paused n S D a1.toInt a2.toInt ∧ FXz σ σ') := by
  unfold F_X12_paused r_paused
  refine Rt_fe F_in ?_
  by_cases c : 0 ≤ a2.toInt ∧ a2.toInt ≤ 1
  · rw [if_pos (show (0 : Int32).toInt ≤ a2.toInt ∧ a2.toInt ≤ (1 : Int32).toInt from c), if_pos c]
    refine Rt_f (by decide +kernel) ?_
    refine Rt_fe F_in ?_
    by_cases d : 1 ≤ a1.toInt ∧ a1.toInt ≤ 30
    · rw [if_pos (show (1 : Int32).toInt ≤ a1.toInt ∧ a1.toInt ≤ (30 : Int32).toInt from d), if_pos d]
      refine Rt_f (by decide +kernel) ?_
      obtain ⟨j, hj⟩ : ∃ j : Nat, a1.toInt = (j : Int) := ⟨a1.toInt.toNat, by omega⟩
      rw [hj, show ((j : Int)).toNat = j from by omega]
      exact psdLM hj (by omega) (j + 1) 0 60 (0 : Int32) (-1 : Int32) (0 : Int32) 0 (-1) σ (by omega) (by omega) rfl rfl rfl h
    · rw [if_neg (show ¬ ((1 : Int32).toInt ≤ a1.toInt ∧ a1.toInt ≤ (30 : Int32).toInt) from d), if_neg d]
      exact Rt_t rfl (Rt_p ⟨rfl, FXz_rf⟩)
  · rw [if_neg (show ¬ ((0 : Int32).toInt ≤ a2.toInt ∧ a2.toInt ≤ (1 : Int32).toInt) from c), if_neg c]
    exact Rt_t rfl (Rt_p ⟨rfl, FXz_rf⟩)
/-! planned -/
noncomputable def aPl1 (S : Stc) (v : Int) (D : Dyn) : Dyn := if v = 0 then (aMin S D).2 else if v = 1 then aWhe D else if v = 2 then aPas 1 3 D else D
noncomputable def aPln (S : Stc) (f : Nat → Int) : Nat → Nat → Dyn → Dyn
  | 0, _, D => D
  | j + 1, i, D => aPln S f j (i + 1) (aPl1 S (f i) D)
theorem aPl1_b {n : Nat} {S : Stc} {D : Dyn} {K v : Int} (h : SBd n S) (d : DBd n K D) : DBd n (K + 1) (aPl1 S v D) := by
  unfold aPl1
  split
  · exact aMin_b h d
  split
  · exact aWhe_b d
  split
  · exact aPas_b d (by decide +kernel) (by decide +kernel)
  · exact ⟨by have := d.1; omega, d.2⟩
theorem plnLM {n P : Nat} {S : Stc} {f : Nat → Int} {σ0 : Sg} (sb : SBd n S) (hP : P ≤ 10) : ∀ (j i N : Nat) (x1 : Int32) (D : Dyn) (K : Int) (σ : Sg), i + j = P → 2 * j + 1 ≤ N → x1.toInt = (i : Int) → K + (j : Int) ≤ 100000 → DBd n K D → MS n S σ → MDy n D σ → KP σ0 σ → (gi σ 74 45).toInt = (P : Int) → (∀ k, k < P → (gi σ 147 k).toInt = f k) →
    Rt (LF_X12_planned N 0 x1 σ) (fun r σ' => r.toInt = tot n (aPln S f j i D) ∧ FXz σ0 σ') := by
  have n6 := sb.1
  intro j
  induction j with
  | zero =>
    intro i N x1 D K σ hj hN hx hK db hs hd hk h45 hf
    obtain ⟨N, rfl⟩ : ∃ i, N = i + 1 := ⟨N - 1, by omega⟩
    show Rt (LB_X12_planned_6 (LF_X12_planned N) x1 σ) _
    unfold LB_X12_planned_6
    refine Rt_t (i_le (by omega)) ?_
    obtain ⟨r, e, v⟩ := allM n6 hs.1 db hd
    refine Rt_fe e ?_
    exact Rt_fs (putM hk) (fun σ5 z5 => Rt_p ⟨v, z5⟩)
  | succ j ih =>
    intro i N x1 D K σ hj hN hx hK db hs hd hk h45 hf
    obtain ⟨N, rfl⟩ : ∃ i, N = i + 2 := ⟨N - 2, by omega⟩
    have ex := cl_eq (x := x1) (by omega)
    have ep : x1.toNatClampNeg = i := by omega
    have hfi := hf i (by omega)
    show Rt (LB_X12_planned_6 (LF_X12_planned (N + 1)) x1 σ) (fun r σ' => r.toInt = tot n (aPln S f j (i + 1) (aPl1 S (f i) D)) ∧ FXz σ0 σ')
    unfold LB_X12_planned_6
    refine Rt_f (i_nle (by omega)) ?_
    rw [ep]
    have go : ∀ (σ5 : Sg) (D' : Dyn) (v : Int32), D' = aPl1 S (f i) D → v.toInt = ((i + 1 : Nat) : Int) → FXq n σ σ5 → MDy n D' σ5 → Rt (LF_X12_planned N 0 v σ5) (fun r σ' => r.toInt = tot n (aPln S f j (i + 1) (aPl1 S (f i) D)) ∧ FXz σ0 σ') := by
      intro σ5 D' v e hv f5 d5
      rw [e] at d5
      exact ih (i + 1) N v _ (K + 1) σ5 (by omega) (by omega) hv (by omega) (aPl1_b sb db) (MS_q f5 hs) d5 (KP_q n6 hk f5) (by rw [FXq_i f5 (by omega)]; exact h45) (fun k hk' => by rw [FXq_i f5 (by omega)]; exact hf k hk')
    have no2 : ∀ (σ5 : Sg) (D' : Dyn), f i ≠ 2 → D' = aPl1 S (f i) D → FXq n σ σ5 → MDy n D' σ5 → Rt (LF_X12_planned (N + 1) 1 x1 σ5) (fun r σ' => r.toInt = tot n (aPln S f j (i + 1) (aPl1 S (f i) D)) ∧ FXz σ0 σ') := by
      intro σ5 D' h2 e f5 d5
      show Rt (LB_X12_planned_42 (LF_X12_planned N) x1 σ5) _
      unfold LB_X12_planned_42
      rw [ep, FXq_i f5 (by omega)]
      refine Rt_f (i_ne (show _ ≠ (2 : Int) by omega)) ?_
      refine Rt_fl (fun v e9 => ?_)
      exact go σ5 D' v e (by rw [e9, i_inc (by omega)]; omega) f5 d5
    by_cases c0 : f i = 0
    · refine Rt_t (i_eq (show _ = (0 : Int) by omega)) ?_
      refine Rt_fs (gosM9 (j := 1) sb rfl (by decide +kernel) (by omega) db hs.2 hd) (fun σ5 ⟨d5, f5, _⟩ => ?_)
      rw [FXq_i f5 (by omega)]
      refine Rt_f (i_ne (show _ ≠ (1 : Int) by omega)) ?_
      exact no2 σ5 (aMin S D).2 (by omega) (by unfold aPl1; rw [if_pos c0]) f5 d5
    · refine Rt_f (i_ne (show _ ≠ (0 : Int) by omega)) ?_
      by_cases c1 : f i = 1
      · refine Rt_t (i_eq (show _ = (1 : Int) by omega)) ?_
        refine Rt_fs (whetM sb db (by omega) hs hd) (fun σ5 ⟨d5, f5⟩ => ?_)
        exact no2 σ5 (aWhe D) (by omega) (by unfold aPl1; rw [if_neg c0, if_pos c1]) f5 d5
      · refine Rt_f (i_ne (show _ ≠ (1 : Int) by omega)) ?_
        by_cases c2 : f i = 2
        · show Rt (LB_X12_planned_42 (LF_X12_planned N) x1 σ) _
          unfold LB_X12_planned_42
          rw [ep]
          refine Rt_t (i_eq (show _ = (2 : Int) by omega)) ?_
          refine Rt_fs (pausM (j := 1) sb db (by omega) rfl (by decide +kernel) hs hd) (fun σ5 ⟨d5, f5⟩ => ?_)
          refine Rt_fl (fun v e9 => ?_)
          exact go σ5 (aPas 1 3 D) v (by unfold aPl1; rw [if_neg c0, if_neg c1, if_pos c2]) (by rw [e9, i_inc (by omega)]; omega) f5 d5
        · exact no2 σ D c2 (by unfold aPl1; rw [if_neg c0, if_neg c1, if_neg c2]) FXq_rf hd
theorem plannedM {n P : Nat} {K : Int} {S : Stc} {D : Dyn} {f : Nat → Int} {σ : Sg} (h : HMo n K S D σ) (hP : P ≤ 10) (h45 : (gi σ 74 45).toInt = (P : Int)) (hf : ∀ k, k < P → (gi σ 147 k).toInt = f k) : Rt (F_X12_planned σ) (fun r σ' => r.toInt = tot n (aPln S f P 0 D) ∧ FXz σ σ') := by
  obtain ⟨sb, db, hK, hr, h99, hs, hd⟩ := h
  unfold F_X12_planned
  exact Rt_fs (savM sb.1 hs hd) (fun σ1 ⟨k1, s1, d1, t1, z1⟩ => plnLM sb hP P 0 300 (0 : Int32) D K σ1 (by omega) (by omega) rfl (by omega) db s1 d1 k1 (by rw [FXz_i z1 (by omega)]; exact h45) (fun k hk => by rw [FXz_i z1 (by omega)]; exact hf k hk))
/-! what the model answers: stop, alone, who, odds, mean; looked leaves all -/
theorem Ru_and {x : Sg} {P Q : Sg → Prop} (h : Ru x P) (g : Ru x Q) : Ru x (fun s => P s ∧ Q s) := ⟨h, g⟩
theorem or0 (x : Int32) : x ||| (0 : Int32) = x := Int32.or_zero
theorem put140 {σ : Sg} : Ru (F_X12_putBack σ) (fun σ' => ∀ k, gi σ' 140 k = gi σ 140 k) := by
  unfold F_X12_putBack
  refine Ru_fl (fun σ1 e1 => ?_)
  refine Ru_w (putLM 6 0 9 σ1 (0 : Int32) rfl (by decide +kernel) rfl) (fun σ' h k => ?_)
  have := h.1.1 140 k (fun z => z) (fun z => by (try dsimp only at z); omega)
  rw [this, e1, gi_si_ne (Or.inl (by decide +kernel))]
theorem sav140 {σ : Sg} : Ru (F_X12_save σ) (fun σ' => ∀ k, gi σ' 140 k = gi σ 140 k) := by
  unfold F_X12_save
  refine Ru_fl (fun σ1 e1 => ?_)
  refine Ru_w (savLM 6 0 9 σ1 (0 : Int32) rfl (by decide +kernel) rfl) (fun σ' h k => ?_)
  have := h.1.1 140 k (fun z => by (try dsimp only at z); omega) (fun z => z)
  rw [this, e1, gi_si_ne (Or.inl (by decide +kernel))]
/-! stop -/
noncomputable def aHit (m : Nat) (f g : Nat → Int) : Nat → Nat → Int32 → Int32
  | 0, _, x => x
  | j + 1, k, x => aHit m f g j (k + 1) (if k ≠ m ∧ g k < f k then x ||| ((1 : Int32) <<< (nI k &&& 31)) else x)
theorem hitLM {n m j : Nat} {S : Stc} {D : Dyn} {f : Nat → Int} {σ0 σ : Sg} {x1 x4 x5 : Int32} {K : Int} (n6 : n ≤ 6) (hn : (gi σ 74 0).toInt = (n : Int)) (db : DBd n K D) (hd : MDy n D σ) (hk : KP σ0 σ) (hf : ∀ k, k < n → (gi σ 140 k).toInt = f k) (h1 : x1.toInt = (m : Int)) (hm : m < n) : ∀ (i k N : Nat) (x6 x7 : Int32), i + k = n → i < N → x7.toInt = (k : Int) →
    Rt (LF_X12_stop N 1 x1 0 0 x4 x5 x6 x7 σ) (fun r σ' => (∃ q : Int32, q.toInt = tot n D ∧ r = if x4.toInt = 0 then x5 - q else aHit m f (D_at D) i k x6) ∧ FXz σ0 σ') := by
  intro i
  induction i with
  | zero =>
    intro k N x6 x7 hi hN h7
    obtain ⟨N, rfl⟩ : ∃ i, N = i + 1 := ⟨N - 1, by omega⟩
    show Rt (LB_X12_stop_123 (LF_X12_stop N) x1 x4 x5 x6 x7 σ) _
    unfold LB_X12_stop_123
    refine Rt_t (i_le (by omega)) ?_
    obtain ⟨q, e, v⟩ := allM n6 hn db hd
    refine Rt_fe e ?_
    refine Rt_fs (putM hk) (fun σ4 z => ?_)
    by_cases c : x4.toInt = 0
    · exact Rt_t (i_eq c) (Rt_p ⟨⟨q, v, by rw [if_pos c]⟩, z⟩)
    · exact Rt_f (i_ne c) (Rt_p ⟨⟨q, v, by rw [if_neg c]; rfl⟩, z⟩)
  | succ i ih =>
    intro k N x6 x7 hi hN h7
    obtain ⟨N, rfl⟩ : ∃ i, N = i + 1 := ⟨N - 1, by omega⟩
    have ex := cl_eq (x := x7) (by omega)
    have ep : x7.toNatClampNeg = k := by omega
    have e7 : x7 = nI k := by rw [← ep]; exact nI_ofI (by omega)
    have fk := hf k (by omega)
    have gk := hd.2.1 k (by omega)
    show Rt (LB_X12_stop_123 (LF_X12_stop N) x1 x4 x5 x6 x7 σ) (fun r σ' => (∃ q : Int32, q.toInt = tot n D ∧ r = if x4.toInt = 0 then x5 - q else aHit m f (D_at D) i (k + 1) (if k ≠ m ∧ D_at D k < f k then x6 ||| ((1 : Int32) <<< (nI k &&& 31)) else x6)) ∧ FXz σ0 σ')
    unfold LB_X12_stop_123
    refine Rt_f (i_nle (by omega)) ?_
    have v8 : ∀ v : Int32, v = x7 + 1 → v.toInt = ((k + 1 : Nat) : Int) := fun v e => by rw [e, i_inc (by omega)]; omega
    by_cases c : k = m
    · refine Rt_t (i_eq (by omega)) ?_
      rw [if_neg (show ¬ (k ≠ m ∧ D_at D k < f k) from fun z => z.1 c)]
      refine Rt_fl (fun v7 e => ?_)
      refine Rt_fl (fun v8' e8 => ?_)
      rw [e, or0]
      exact ih (k + 1) N x6 v8' (by omega) (by omega) (v8 _ e8)
    · refine Rt_f (i_ne (by omega)) ?_
      rw [ep]
      by_cases d : D_at D k < f k
      · rw [if_pos (show k ≠ m ∧ D_at D k < f k from ⟨c, d⟩)]
        refine Rt_f (i_nle (by omega)) ?_
        refine Rt_fl (fun v7 e => ?_)
        refine Rt_fl (fun v8' e8 => ?_)
        rw [← e7, ← e]
        exact ih (k + 1) N v7 v8' (by omega) (by omega) (v8 _ e8)
      · rw [if_neg (show ¬ (k ≠ m ∧ D_at D k < f k) from fun z => d z.2)]
        refine Rt_t (i_le (by omega)) ?_
        refine Rt_fl (fun v7 e => ?_)
        refine Rt_fl (fun v8' e8 => ?_)
        rw [e, or0]
        exact ih (k + 1) N x6 v8' (by omega) (by omega) (v8 _ e8)
theorem stp0M {n m r j : Nat} {K : Int} {S : Stc} {D : Dyn} {σ0 : Sg} {x1 x2 x3 x4 : Int32} (h : HMo n K S D σ0) (h1 : x1.toInt = (m : Int)) (hm : m < n) (h2 : x2.toInt = (r : Int)) (hr : r ≤ 20) (h3 : x3.toInt = (j : Int)) (hj : j ≤ 60) : ∀ (i k N : Nat) (x5 : Int32) (σ : Sg), i + k = 6 → i + 10 < N → x5.toInt = (k : Int) → KP σ0 σ → MS n S σ → MDy n (aMins S j D) σ → (∀ p, p < k → gi σ 140 p = gi σ 105 p) →
    Rt (LF_X12_stop N 0 x1 x2 x3 x4 x5 0 0 σ) (fun q σ' => (∃ u v : Int32, u.toInt = tot n (aMins S j D) ∧ v.toInt = tot n (aMins S j (aStp m r D)) ∧ q = if x4.toInt = 0 then u - v else aHit m (D_at (aMins S j D)) (D_at (aMins S j (aStp m r D))) n 0 0) ∧ FXz σ0 σ') := by
  obtain ⟨sb, db, hK, hrr, h99, hs0, hd0⟩ := id h
  have n6 := sb.1
  have db2 := aMins_b sb j D K db
  intro i
  induction i with
  | zero =>
    intro k N x5 σ hi hN h5 hk hs hd hq
    obtain ⟨N, rfl⟩ : ∃ i, N = i + 1 := ⟨N - 1, by omega⟩
    have ex := cl_eq (x := x1) (by omega)
    have ep : x1.toNatClampNeg = m := by omega
    show Rt (LB_X12_stop_61 (LF_X12_stop N) x1 x2 x3 x4 x5 σ) _
    unfold LB_X12_stop_61
    refine Rt_t (i_le (show (6 : Int) ≤ _ by omega)) ?_
    obtain ⟨u, e, hu⟩ := allM n6 hs.1 db2 hd
    refine Rt_fe e ?_
    rw [ep]
    refine Rt_fs (Ru_and (putM hk) put140) (fun σ4 ⟨z4, g4⟩ => ?_)
    have s4 := MS_z z4 hs0
    have d4 := MDy_z z4 hd0
    refine Rt_fs (Ru_and (savM n6 s4 d4) sav140) (fun σ5 ⟨⟨k5, s5, d5, _, _⟩, g5⟩ => ?_)
    refine Rt_fl (fun σ8 e8 => ?_)
    have k8 : KP σ4 σ8 := by rw [e8]; exact KP_si (by omega) k5
    have s8 : MS n S σ8 := by rw [e8]; exact MS_eq (fun id j h9 => gi_si_ne (Or.inl (by omega))) s5
    have d8 : MDy n (aStp m r D) σ8 := by rw [e8]; exact stpM db hm h2 (by omega) d5
    have db8 := aStp_b (r := (r : Int)) db (h99 m hm) hm (by omega)
    refine Rt_fs (gosM9 sb h3 hj (by omega) db8 s8.2 d8) (fun σ9 ⟨d9, f9, _⟩ => ?_)
    have s9 := MS_q f9 s8
    refine Rt_w (hitLM (j := 0) (S := S) n6 s9.1 (aMins_b sb j _ K db8) d9 (KP_q n6 k8 f9) (f := D_at (aMins S j D)) (fun p hp => ?_) h1 hm n 0 N (0 : Int32) (0 : Int32) (by omega) (by omega) rfl) (fun q σ' hq' => ⟨?_, FXz_tr z4 hq'.2⟩)
    · rw [FXq_i f9 (by omega), e8, gi_si_ne (Or.inl (by decide +kernel)), g5, g4, hq p (by omega)]
      exact hd.2.1 p hp
    · obtain ⟨⟨v, hv, e9⟩, -⟩ := hq'
      exact ⟨u, v, hu, hv, e9⟩
  | succ i ih =>
    intro k N x5 σ hi hN h5 hk hs hd hq
    obtain ⟨N, rfl⟩ : ∃ i, N = i + 1 := ⟨N - 1, by omega⟩
    have ex := cl_eq (x := x5) (by omega)
    show Rt (LB_X12_stop_61 (LF_X12_stop N) x1 x2 x3 x4 x5 σ) _
    unfold LB_X12_stop_61
    refine Rt_f (i_nle (show _ < (6 : Int) by omega)) ?_
    rw [show x5.toNatClampNeg = k from by omega]
    refine Rt_fl (fun σ9 e9 => ?_)
    refine Rt_fl (fun v9 e8 => ?_)
    refine ih (k + 1) N v9 σ9 (by omega) (by omega) (by rw [e8, i_inc (by omega)]; omega) (by rw [e9]; exact KP_si (by omega) hk) (by rw [e9]; exact MS_si (by omega) hs) (by rw [e9]; exact MDy_eq (fun id j h9 => gi_si_ne (Or.inl (by omega))) hd) (fun p hp => ?_)
    rw [e9, gi_si_ne (show 105 ≠ 140 ∨ _ from Or.inl (by decide +kernel))]
    by_cases e : p = k
    · subst e; rw [gi_si_eq]
    · rw [gi_si_ne (Or.inr e)]; exact hq p (by omega)
theorem F_mIs {a1 : Int32} {σ : Sg} {n : Nat} (hn : (gi σ 74 0).toInt = (n : Int)) (n6 : n ≤ 6) : F_X12_isMower a1 σ = (if 0 ≤ a1.toInt ∧ a1.toInt < (n : Int) then (1 : Int32) else 0, σ) := by
  have e : (gi σ 74 0 - (1 : Int32)).toInt = (n : Int) - 1 := by rw [i_sub (y := (1 : Int32)) (by show (_ : Int) ≤ _ - 1; omega) (by show _ - 1 ≤ (_ : Int); omega), hn]; rfl
  unfold F_X12_isMower
  rw [F_in, fb_e, e]
  by_cases c : 0 ≤ a1.toInt ∧ a1.toInt < (n : Int)
  · rw [if_pos c, if_pos (show (0 : Int32).toInt ≤ a1.toInt ∧ a1.toInt ≤ (n : Int) - 1 from ⟨c.1, by omega⟩)]
  · rw [if_neg c, if_neg (fun z => c ⟨z.1, by have := z.2; omega⟩)]
/-- what stop answers -/
theorem stopM {n : Nat} {K : Int} {S : Stc} {D : Dyn} {σ : Sg} {a1 a2 a3 a4 : Int32} (h : HMo n K S D σ) : Rt (F_X12_stop a1 a2 a3 a4 σ) (fun q σ' =>
    ((∃ m r j : Nat, a1.toInt = (m : Int) ∧ m < n ∧ a2.toInt = (r : Int) ∧ (1 ≤ r ∧ r ≤ 20) ∧ a3.toInt = (j : Int) ∧ (1 ≤ j ∧ j ≤ 60) ∧ (0 ≤ a4.toInt ∧ a4.toInt ≤ 1) ∧ ∃ u v : Int32, u.toInt = tot n (aMins S j D) ∧ v.toInt = tot n (aMins S j (aStp m r D)) ∧ q = if a4.toInt = 0 then u - v else aHit m (D_at (aMins S j D)) (D_at (aMins S j (aStp m r D))) n 0 0)
      ∨ (((0 ≤ a1.toInt ∧ a1.toInt < (n : Int)) ∧ (0 ≤ a4.toInt ∧ a4.toInt ≤ 1)) ∧ ¬ ((1 ≤ a2.toInt ∧ a2.toInt ≤ 20) ∧ (1 ≤ a3.toInt ∧ a3.toInt ≤ 60)) ∧ q = (-100002 : Int32))
      ∨ (¬ ((0 ≤ a1.toInt ∧ a1.toInt < (n : Int)) ∧ (0 ≤ a4.toInt ∧ a4.toInt ≤ 1)) ∧ q = (-100001 : Int32))) ∧ FXz σ σ') := by
  obtain ⟨sb, db, hK, hrr, h99, hs, hd⟩ := id h
  have n6 := sb.1
  unfold F_X12_stop
  rw [F_mIs hs.1 n6, fb_e]
  by_cases c1 : 0 ≤ a1.toInt ∧ a1.toInt < (n : Int)
  · rw [if_pos c1]
    refine Rt_f (by decide +kernel) ?_
    refine Rt_fe F_in ?_
    by_cases c4 : 0 ≤ a4.toInt ∧ a4.toInt ≤ 1
    · rw [if_pos (show (0 : Int32).toInt ≤ a4.toInt ∧ a4.toInt ≤ (1 : Int32).toInt from c4)]
      refine Rt_f (by decide +kernel) ?_
      refine Rt_fe F_in ?_
      by_cases c2 : 1 ≤ a2.toInt ∧ a2.toInt ≤ 20
      · rw [if_pos (show (1 : Int32).toInt ≤ a2.toInt ∧ a2.toInt ≤ (20 : Int32).toInt from c2)]
        refine Rt_f (by decide +kernel) ?_
        refine Rt_fe F_in ?_
        by_cases c3 : 1 ≤ a3.toInt ∧ a3.toInt ≤ 60
        · rw [if_pos (show (1 : Int32).toInt ≤ a3.toInt ∧ a3.toInt ≤ (60 : Int32).toInt from c3)]
          refine Rt_f (by decide +kernel) ?_
          obtain ⟨j, hj⟩ : ∃ j : Nat, a3.toInt = (j : Int) := ⟨a3.toInt.toNat, by omega⟩
          obtain ⟨r, hr⟩ : ∃ r : Nat, a2.toInt = (r : Int) := ⟨a2.toInt.toNat, by omega⟩
          obtain ⟨m, hm⟩ : ∃ m : Nat, a1.toInt = (m : Int) := ⟨a1.toInt.toNat, by omega⟩
          refine Rt_fs (savM n6 hs hd) (fun σ1 ⟨k1, s1, d1, _, _⟩ => ?_)
          refine Rt_fs (gosM9 sb hj (by omega) (by omega) db s1.2 d1) (fun σ2 ⟨d2, f2, _⟩ => ?_)
          exact Rt_w (stp0M h hm (by omega) hr (by omega) hj (by omega) 6 0 60 (0 : Int32) σ2 rfl (by decide +kernel) rfl (KP_q n6 k1 f2) (MS_q f2 s1) d2 (fun p hp => absurd hp (Nat.not_lt_zero p))) (fun q σ' z => ⟨Or.inl ⟨m, r, j, hm, by omega, hr, by omega, hj, by omega, c4, z.1⟩, z.2⟩)
        · rw [if_neg (show ¬ ((1 : Int32).toInt ≤ a3.toInt ∧ a3.toInt ≤ (60 : Int32).toInt) from c3)]
          exact Rt_t rfl (Rt_p ⟨Or.inr (Or.inl ⟨⟨c1, c4⟩, fun z => c3 z.2, rfl⟩), FXz_rf⟩)
      · rw [if_neg (show ¬ ((1 : Int32).toInt ≤ a2.toInt ∧ a2.toInt ≤ (20 : Int32).toInt) from c2)]
        exact Rt_t rfl (Rt_p ⟨Or.inr (Or.inl ⟨⟨c1, c4⟩, fun z => c2 z.1, rfl⟩), FXz_rf⟩)
    · rw [if_neg (show ¬ ((0 : Int32).toInt ≤ a4.toInt ∧ a4.toInt ≤ (1 : Int32).toInt) from c4)]
      exact Rt_t rfl (Rt_p ⟨Or.inr (Or.inr ⟨fun z => c4 z.2, rfl⟩), FXz_rf⟩)
  · rw [if_neg c1]
    exact Rt_t rfl (Rt_p ⟨Or.inr (Or.inr ⟨fun z => c1 z.1, rfl⟩), FXz_rf⟩)
/-! what the model answers: alone, who, odds, mean; looked leaves all -/
noncomputable def sAl (m : Nat) (S : Stc) : Stc := (1, (fun p => if p = 0 then m else S_ln S p), S.2.2)
theorem SBd_al {n m : Nat} {S : Stc} (h : SBd n S) (hm : m < n) : SBd n (sAl m S) := ⟨h.1, by show 1 ≤ n; omega, fun p hp => by
  have hp : p < 1 := hp
  show (if p = 0 then m else S_ln S p) < n
  rw [if_pos (by omega)]; exact hm, h.2.2.2⟩
noncomputable def KPl (σ0 σ : Sg) : Prop := (∀ id k, ¬ Pw id k → ¬ (id = 110 ∧ k < 6) → ¬ (id = 74 ∧ k = 2) → gi σ id k = gi σ0 id k) ∧ gi σ 74 33 = gi σ0 74 1 ∧ ∀ a, a < 4 → ∀ k, k < 6 → gi σ (134 + a) k = gi σ0 (105 + a) k
theorem KPl_q {n : Nat} {σ0 σ σ1 : Sg} (n6 : n ≤ 6) (k : KPl σ0 σ) (f : FXq n σ σ1) : KPl σ0 σ1 := by
  obtain ⟨k1, k2, k3⟩ := k
  exact ⟨fun id k a b c => (FXq_w n6 f id k a).trans (k1 id k a b c), by rw [FXq_i f (by omega)]; exact k2, fun a ha k hk => by rw [FXq_i f (by omega)]; exact k3 a ha k hk⟩
theorem KPl_si {σ0 σ : Sg} {a k : Nat} {v : Int32} (h : (a = 110 ∧ k < 6) ∨ (a = 74 ∧ k = 2)) (q : KPl σ0 σ) : KPl σ0 (si σ a k v) := by
  obtain ⟨k1, k2, k3⟩ := q
  exact ⟨fun id j a b c => by rw [gi_si_ne (by omega)]; exact k1 id j a b c, by rw [gi_si_ne (by omega)]; exact k2, fun b hb k hk => by rw [gi_si_ne (by omega)]; exact k3 b hb k hk⟩
theorem alBM {n : Nat} {S : Stc} {σ0 : Sg} {x3 : Int32} (hs0 : MS n S σ0) (hr : S_r S = n) : ∀ (i k N : Nat) (x4 : Int32) (σ : Sg), i + k = 6 → i < N → x4.toInt = (k : Int) → KPl σ0 σ → (∀ p, p < 6 → gi σ 138 p = gi σ0 110 p) → (∀ p, p < k → gi σ 110 p = gi σ0 110 p) →
    Rt (LF_X12_aloneBehind N 1 0 0 x3 x4 σ) (fun r σ' => r = x3 ∧ FXz σ0 σ') := by
  intro i
  induction i with
  | zero =>
    intro k N x4 σ hi hN h4 hk h8 hq
    obtain ⟨N, rfl⟩ : ∃ i, N = i + 1 := ⟨N - 1, by omega⟩
    show Rt (LB_X12_aloneBehind_57 (LF_X12_aloneBehind N) x3 x4 σ) _
    unfold LB_X12_aloneBehind_57
    refine Rt_t (i_le (show (6 : Int) ≤ _ by omega)) ?_
    refine Rt_fl (fun σ2 e2 => ?_)
    have e0 : gi σ 74 0 = gi σ0 74 2 := by
      rw [hk.1 74 0 (by unfold Pw Pz; omega) (by omega) (by omega)]
      exact i_eq (by rw [hs0.1, hs0.2.1, hr])
    have k2 : KP σ0 σ2 := by
      refine ⟨fun id j a => ?_, by rw [e2, gi_si_ne (Or.inr (by decide +kernel))]; exact hk.2.1, fun a ha j hj => by rw [e2, gi_si_ne (Or.inl (by omega))]; exact hk.2.2 a ha j hj⟩
      by_cases c : id = 74 ∧ j = 2
      · obtain ⟨rfl, rfl⟩ := c
        rw [e2, gi_si_eq]; exact e0
      · rw [e2, gi_si_ne (by omega)]
        by_cases d : id = 110 ∧ j < 6
        · obtain ⟨rfl, hj⟩ := d
          exact hq j (by omega)
        · exact hk.1 id j a d c
    exact Rt_fs (putM k2) (fun σ3 z => Rt_p ⟨rfl, z⟩)
  | succ i ih =>
    intro k N x4 σ hi hN h4 hk h8 hq
    obtain ⟨N, rfl⟩ : ∃ i, N = i + 1 := ⟨N - 1, by omega⟩
    have ex := cl_eq (x := x4) (by omega)
    show Rt (LB_X12_aloneBehind_57 (LF_X12_aloneBehind N) x3 x4 σ) _
    unfold LB_X12_aloneBehind_57
    refine Rt_f (i_nle (show _ < (6 : Int) by omega)) ?_
    rw [show x4.toNatClampNeg = k from by omega]
    refine Rt_fl (fun σ6 e6 => ?_)
    refine Rt_fl (fun v7 e7 => ?_)
    refine ih (k + 1) N v7 σ6 (by omega) (by omega) (by rw [e7, i_inc (by omega)]; omega) (by rw [e6]; exact KPl_si (by omega) hk) (fun p hp => by rw [e6, gi_si_ne (Or.inl (by decide +kernel))]; exact h8 p hp) (fun p hp => ?_)
    rw [e6]
    by_cases e : p = k
    · subst e; rw [gi_si_eq]; exact h8 p (by omega)
    · rw [gi_si_ne (Or.inr e)]; exact hq p (by omega)
theorem alAM {n m j : Nat} {K : Int} {S : Stc} {D : Dyn} {σ0 : Sg} {x1 x2 : Int32} (h : HMo n K S D σ0) (h1 : x1.toInt = (m : Int)) (hm : m < n) (h2 : x2.toInt = (j : Int)) (hj : j ≤ 60) : ∀ (i k N : Nat) (x3 : Int32) (σ : Sg), i + k = 6 → i + 10 < N → x3.toInt = (k : Int) → KP σ0 σ → MS n S σ → MDy n D σ → (∀ p, p < k → gi σ 138 p = gi σ0 110 p) →
    Rt (LF_X12_aloneBehind N 0 x1 x2 x3 0 σ) (fun r σ' => r.toInt = D_at (aMins (sAl m S) j D) m ∧ FXz σ0 σ') := by
  obtain ⟨sb, db, hK, hrr, h99, hs0, hd0⟩ := id h
  have n6 := sb.1
  intro i
  induction i with
  | zero =>
    intro k N x3 σ hi hN h3 hk hs hd hq
    obtain ⟨N, rfl⟩ : ∃ i, N = i + 1 := ⟨N - 1, by omega⟩
    have ex := cl_eq (x := x1) (by omega)
    show Rt (LB_X12_aloneBehind_6 (LF_X12_aloneBehind N) x1 x2 x3 σ) _
    unfold LB_X12_aloneBehind_6
    refine Rt_t (i_le (show (6 : Int) ≤ _ by omega)) ?_
    rw [show (0 : Int32).toNatClampNeg = 0 from rfl, show x1.toNatClampNeg = m from by omega]
    refine Rt_fl (fun σ3 e3 => ?_)
    refine Rt_fl (fun σ4 e4 => ?_)
    have kl : KPl σ0 σ := ⟨fun id k a _ _ => hk.1 id k a, hk.2.1, hk.2.2⟩
    have k4 : KPl σ0 σ4 := by rw [e4, e3]; exact KPl_si (by omega) (KPl_si (by omega) kl)
    have g4 : ∀ id k, ¬ (id = 110 ∧ k = 0) → ¬ (id = 74 ∧ k = 2) → gi σ4 id k = gi σ id k := fun id k a b => by rw [e4, gi_si_ne (by omega), e3, gi_si_ne (by omega)]
    have s4 : MT n (sAl m S) σ4 := by
      obtain ⟨q2, q3, q4, q5, q6, q7, q8, q9⟩ := hs.2
      refine ⟨by rw [e4, gi_si_eq]; rfl, fun p hp => ?_, fun m hm => by rw [g4 103 m (by omega) (by omega)]; exact q4 m hm, fun m hm => by rw [g4 104 m (by omega) (by omega)]; exact q5 m hm, fun k hk => by rw [g4 109 k (by omega) (by omega)]; exact q6 k hk, MH_eq (g4 74 12 (by omega) (by omega)) (fun id k a b => g4 id k (by omega) (by omega)) q7, q8, by rw [g4 74 28 (by omega) (by omega)]; exact q9⟩
      have hp : p < 1 := hp
      obtain rfl : p = 0 := by omega
      rw [e4, gi_si_ne (Or.inl (by decide +kernel)), e3, gi_si_eq]
      exact h1
    have d4 : MDy n D σ4 := MDy_eq (fun id k a => g4 id k (by omega) (by omega)) hd
    refine Rt_fs (gosM9 (SBd_al sb hm) h2 hj (by omega) db s4 d4) (fun σ5 ⟨d5, f5, _⟩ => ?_)
    refine Rt_fl (fun v7 e7 => ?_)
    refine Rt_w (alBM (σ0 := σ0) (x3 := v7) hs0 hrr 6 0 N (0 : Int32) σ5 rfl (by omega) rfl (KPl_q n6 k4 f5) (fun p hp => by rw [FXq_i f5 (by omega), g4 138 p (by omega) (by omega)]; exact hq p (by omega)) (fun p hp => absurd hp (Nat.not_lt_zero p))) (fun r σ' q => ⟨?_, q.2⟩)
    rw [q.1, e7]; exact d5.2.1 m hm
  | succ i ih =>
    intro k N x3 σ hi hN h3 hk hs hd hq
    obtain ⟨N, rfl⟩ : ∃ i, N = i + 1 := ⟨N - 1, by omega⟩
    have ex := cl_eq (x := x3) (by omega)
    show Rt (LB_X12_aloneBehind_6 (LF_X12_aloneBehind N) x1 x2 x3 σ) _
    unfold LB_X12_aloneBehind_6
    refine Rt_f (i_nle (show _ < (6 : Int) by omega)) ?_
    rw [show x3.toNatClampNeg = k from by omega]
    refine Rt_fl (fun σ9 e9 => ?_)
    refine Rt_fl (fun v9 e8 => ?_)
    refine ih (k + 1) N v9 σ9 (by omega) (by omega) (by rw [e8, i_inc (by omega)]; omega) (by rw [e9]; exact KP_si (by omega) hk) (by rw [e9]; exact MS_si (by omega) hs) (by rw [e9]; exact MDy_eq (fun id j h9 => gi_si_ne (Or.inl (by omega))) hd) (fun p hp => ?_)
    rw [e9]
    by_cases e : p = k
    · subst e; rw [gi_si_eq]; exact hk.1 110 p (by unfold Pw Pz; omega)
    · rw [gi_si_ne (Or.inr e)]; exact hq p (by omega)
theorem albM {n m j : Nat} {K : Int} {S : Stc} {D : Dyn} {σ : Sg} {x1 x2 : Int32} (h : HMo n K S D σ) (h1 : x1.toInt = (m : Int)) (hm : m < n) (h2 : x2.toInt = (j : Int)) (hj : j ≤ 60) : Rt (F_X12_aloneBehind x1 x2 σ) (fun r σ' => r.toInt = D_at (aMins (sAl m S) j D) m ∧ FXz σ σ') := by
  obtain ⟨sb, db, hK, hrr, h99, hs, hd⟩ := id h
  unfold F_X12_aloneBehind
  exact Rt_fs (savM sb.1 hs hd) (fun σ1 ⟨k1, s1, d1, _, _⟩ => alAM h h1 hm h2 hj 6 0 60 (0 : Int32) σ1 rfl (by decide +kernel) rfl k1 s1 d1 (fun p hp => absurd hp (Nat.not_lt_zero p)))
noncomputable def aAln (f : Nat → Int) : Nat → Nat → Int → Int
  | 0, _, x => x
  | j + 1, k, x => aAln f j (k + 1) (x - f k)
theorem alnLM {n j : Nat} {K : Int} {S : Stc} {D : Dyn} {x1 : Int32} (h1 : x1.toInt = (j : Int)) (hj : j ≤ 60) : ∀ (i k N : Nat) (x2 x3 : Int32) (b : Int) (σ : Sg), i + k = n → i < N → x2.toInt = b → -9999 * (k : Int) ≤ b ∧ b ≤ 60000 → x3.toInt = (k : Int) → HMo n K S D σ →
    Rt (LF_X12_alone N x1 x2 x3 σ) (fun r σ' => r.toInt = aAln (fun m => D_at (aMins (sAl m S) j D) m) i k b ∧ FXz σ σ') := by
  intro i
  induction i with
  | zero =>
    intro k N x2 x3 b σ hi hN h2 hb h3 h
    have hn := h.2.2.2.2.2.1.1
    obtain ⟨N, rfl⟩ : ∃ i, N = i + 1 := ⟨N - 1, by omega⟩
    show Rt (LB_X12_alone_23 (LF_X12_alone N) x1 x2 x3 σ) _
    unfold LB_X12_alone_23
    exact Rt_t (i_le (by omega)) (Rt_p ⟨h2, FXz_rf⟩)
  | succ i ih =>
    intro k N x2 x3 b σ hi hN h2 hb h3 h
    have hn := h.2.2.2.2.2.1.1
    have n6 := h.1.1
    obtain ⟨N, rfl⟩ : ∃ i, N = i + 1 := ⟨N - 1, by omega⟩
    have vb := ((DBd_i.mp (aMins_b (SBd_al (m := k) h.1 (by omega)) j D K h.2.1)).2.1) k (by omega)
    show Rt (LB_X12_alone_23 (LF_X12_alone N) x1 x2 x3 σ) (fun r σ' => r.toInt = aAln (fun m => D_at (aMins (sAl m S) j D) m) i (k + 1) (b - D_at (aMins (sAl k S) j D) k) ∧ FXz σ σ')
    unfold LB_X12_alone_23
    refine Rt_f (i_nle (by omega)) ?_
    refine Rt_fb (albM h h3 (by omega) h1 hj) (fun r3 σ2 ⟨v, z⟩ => ?_)
    refine Rt_fl (fun v4 e4 => ?_)
    refine Rt_fl (fun v5 e5 => ?_)
    exact Rt_w (ih (k + 1) N v4 v5 _ σ2 (by omega) (by omega) (by rw [e4, i_sub (by omega) (by omega), h2, v]) (by omega) (by rw [e5, i_inc (by omega)]; omega) (HMo_z z h)) (fun r σ' q => ⟨q.1, FXz_tr z q.2⟩)
noncomputable def r_alone (n : Nat) (S : Stc) (D : Dyn) (a1 : Int) : Int :=
  if 1 ≤ a1 ∧ a1 ≤ 60 then aAln (fun m => D_at (aMins (sAl m S) a1.toNat D) m) n 0 (tot n (aMins S a1.toNat D)) else -100002
theorem aloneM {n : Nat} {K : Int} {S : Stc} {D : Dyn} {σ : Sg} {a1 : Int32} (h : HMo n K S D σ) : Rt (F_X12_alone a1 σ) (fun r σ' => r.toInt = r_alone n S D a1.toInt ∧ FXz σ σ') := by
  have n6 := h.1.1
  unfold F_X12_alone r_alone
  refine Rt_fe F_in ?_
  by_cases d : 1 ≤ a1.toInt ∧ a1.toInt ≤ 60
  · rw [if_pos (show (1 : Int32).toInt ≤ a1.toInt ∧ a1.toInt ≤ (60 : Int32).toInt from d), if_pos d]
    refine Rt_f (by decide +kernel) ?_
    obtain ⟨j, hj⟩ : ∃ j : Nat, a1.toInt = (j : Int) := ⟨a1.toInt.toNat, by omega⟩
    rw [hj, show ((j : Int)).toNat = j from by omega]
    refine Rt_fb (absM h.1 h.2.1 (by have := h.2.2.1; omega) h.2.2.2.2.2.1 h.2.2.2.2.2.2 hj (by omega)) (fun r5 σ4 ⟨v, z⟩ => ?_)
    have tb := tot_b n6 (aMins_b h.1 j D K h.2.1)
    exact Rt_w (alnLM hj (by omega) n 0 20 r5 (0 : Int32) _ σ4 (by omega) (by omega) v (by omega) rfl (HMo_z z h)) (fun r σ' q => ⟨q.1, FXz_tr z q.2⟩)
  · rw [if_neg (show ¬ ((1 : Int32).toInt ≤ a1.toInt ∧ a1.toInt ≤ (60 : Int32).toInt) from d), if_neg d]
    exact Rt_t rfl (Rt_p ⟨rfl, FXz_rf⟩)
/-! looked leaves all -/
theorem lokLM {x1 : Int32} {σ : Sg} : ∀ (N : Nat) (x2 : Int32), Rt (LF_X12_looked N x1 x2 σ) (fun _ σ' => σ' = σ) := by
  intro N
  induction N with
  | zero => intro x2; exact rfl
  | succ N ih =>
    intro x2
    show Rt (LB_X12_looked_15 (LF_X12_looked N) x1 x2 σ) _
    unfold LB_X12_looked_15
    by_cases c : gi σ 74 46 ≤ x2
    · exact Rt_t c (Rt_p rfl)
    refine Rt_f c ?_
    unfold F_X12_has
    by_cases d : ((x1 >>> ((gi σ 148 x2.toNatClampNeg) &&& 31)) &&& (1 : Int32)) = (1 : Int32)
    · rw [if_pos d, fb_e]
      exact Rt_f (by decide +kernel) (Rt_fl (fun v6 _ => ih v6))
    · rw [if_neg d, fb_e]
      exact Rt_t rfl (Rt_p rfl)
theorem lookedM {n : Nat} {K : Int} {S : Stc} {D : Dyn} {σ : Sg} (h : HMo n K S D σ) : Rt (F_X12_looked σ) (fun _ σ' => FXz σ σ') := by
  obtain ⟨sb, db, hK, hrr, h99, hs, hd⟩ := h
  unfold F_X12_looked
  refine Rt_fs (savM sb.1 hs hd) (fun σ1 ⟨k1, s1, d1, _, _⟩ => ?_)
  refine Rt_fb (minM sb db (by omega) s1.2 d1) (fun r3 σ2 ⟨_, _, f2, _⟩ => ?_)
  refine Rt_fs (putM (KP_q sb.1 k1 f2)) (fun σ4 z => ?_)
  exact Rt_w (lokLM 20 (0 : Int32)) (fun r σ' e => by rw [e]; exact z)
/-! odds, mean -/
theorem divM : ∀ (N : Nat) (p q : Nat) (x3 x4 : Int32) (σ : Sg), x3.toInt = (p : Int) → x4.toInt = (q : Int) → q < N → ∃ r, LF_X12_divisor N x3 x4 σ = (r, σ) ∧ r.toInt = (Nat.gcd p q : Int) := by
  intro N
  induction N with
  | zero => intro p q x3 x4 σ _ _ h; exact absurd h (Nat.not_lt_zero q)
  | succ N ih =>
    intro p q x3 x4 σ h3 h4 hq
    show ∃ r, LB_X12_divisor_5 (LF_X12_divisor N) x3 x4 σ = (r, σ) ∧ _
    unfold LB_X12_divisor_5
    by_cases c : q = 0
    · subst c
      rw [if_pos (i_eq (show _ = (0 : Int) by omega)), Nat.gcd_zero_right]
      exact ⟨_, rfl, h3⟩
    · have m : (x3 - x3 / x4 * x4).toInt = ((p % q : Nat) : Int) := by rw [i_rem (k := (q : Int)) (by omega) (by omega) h4, h3]; omega
      have lt := Nat.mod_lt p (show 0 < q by omega)
      rw [if_neg (i_ne (show _ ≠ (0 : Int) by omega)), fl_e, Nat.gcd_comm p q, Nat.gcd_rec q p, Nat.gcd_comm (p % q) q]
      exact ih q (p % q) x4 _ σ h4 m (by omega)
noncomputable def lwV (a b c : Int32) (g : Int32) : Int64 := if c.toInt = 0 then (a / g).toInt64 else (b / g).toInt64
theorem lowM {a b c : Int32} {p q : Nat} {σ : Sg} (ha : a.toInt = (p : Int)) (hb : b.toInt = (q : Int)) (h6 : q ≤ 6) : ∃ g : Int32, g.toInt = (Nat.gcd p q : Int) ∧ F_X12_lowest a b c σ = (lwV a b c g, σ) := by
  obtain ⟨g, e, v⟩ := divM 20 p q a b σ ha hb (by omega)
  refine ⟨g, v, ?_⟩
  unfold F_X12_lowest lwV
  rw [show F_X12_divisor a b σ = (g, σ) from e, fb_e]
  by_cases d : c.toInt = 0
  · rw [if_pos (i_eq d), if_pos d]
  · rw [if_neg (i_ne d), if_neg d]
theorem meanM {n : Nat} {K : Int} {S : Stc} {D : Dyn} {σ : Sg} {a1 a2 : Int32} (h : HMo n K S D σ) : Rt (F_X12_mean a1 a2 σ) (fun r σ' =>
    ((∃ j : Nat, a1.toInt = (j : Int) ∧ (1 ≤ j ∧ j ≤ 60) ∧ (0 ≤ a2.toInt ∧ a2.toInt ≤ 1) ∧ n ≠ 0 ∧ ∃ u g : Int32, u.toInt = tot n (aMins S j D) ∧ g.toInt = (Nat.gcd (tot n (aMins S j D)).toNat n : Int) ∧ r = lwV u (nI n) a2 g)
      ∨ (¬ ((1 ≤ a1.toInt ∧ a1.toInt ≤ 60) ∧ (0 ≤ a2.toInt ∧ a2.toInt ≤ 1) ∧ n ≠ 0) ∧ r = (-9223372036854775808 : Int64))) ∧ FXz σ σ') := by
  obtain ⟨sb, db, hK, hrr, h99, hs, hd⟩ := id h
  have n6 := sb.1
  unfold F_X12_mean
  refine Rt_fe F_in ?_
  by_cases d : 1 ≤ a1.toInt ∧ a1.toInt ≤ 60
  · rw [if_pos (show (1 : Int32).toInt ≤ a1.toInt ∧ a1.toInt ≤ (60 : Int32).toInt from d)]
    refine Rt_f (by decide +kernel) ?_
    refine Rt_fe F_in ?_
    by_cases c : 0 ≤ a2.toInt ∧ a2.toInt ≤ 1
    · rw [if_pos (show (0 : Int32).toInt ≤ a2.toInt ∧ a2.toInt ≤ (1 : Int32).toInt from c)]
      refine Rt_f (by decide +kernel) ?_
      have hn := hs.1
      by_cases e : n = 0
      · exact Rt_t (i_eq (show _ = (0 : Int) by omega)) (Rt_p ⟨Or.inr ⟨fun z => z.2.2 e, rfl⟩, FXz_rf⟩)
      · refine Rt_f (i_ne (show _ ≠ (0 : Int) by omega)) ?_
        obtain ⟨j, hj⟩ : ∃ j : Nat, a1.toInt = (j : Int) := ⟨a1.toInt.toNat, by omega⟩
        refine Rt_fb (absM sb db (by omega) hs hd hj (by omega)) (fun r9 σ8 ⟨v, z⟩ => ?_)
        have tb := tot_b n6 (aMins_b sb j D K db)
        have e0 : gi σ8 74 0 = nI n := by
          rw [FXz_i z (by omega)]
          exact i_eq (by rw [hn, nI_toInt (by omega)])
        obtain ⟨g, g1, g2⟩ := lowM (a := r9) (b := gi σ8 74 0) (c := a2) (p := (tot n (aMins S j D)).toNat) (q := n) (σ := σ8) (by rw [v]; omega) (by rw [e0, nI_toInt (by omega)]) n6
        exact Rt_fe g2 (Rt_p ⟨Or.inl ⟨j, hj, by omega, c, e, r9, g, v, g1, by rw [e0]⟩, z⟩)
    · rw [if_neg (show ¬ ((0 : Int32).toInt ≤ a2.toInt ∧ a2.toInt ≤ (1 : Int32).toInt) from c)]
      exact Rt_t rfl (Rt_p ⟨Or.inr ⟨fun z => c z.2.1, rfl⟩, FXz_rf⟩)
  · rw [if_neg (show ¬ ((1 : Int32).toInt ≤ a1.toInt ∧ a1.toInt ≤ (60 : Int32).toInt) from d)]
    exact Rt_t rfl (Rt_p ⟨Or.inr ⟨fun z => d z.1, rfl⟩, FXz_rf⟩)
noncomputable def aOd (f : Nat → Int) : Nat → Nat → Nat → Nat
  | 0, _, x => x
  | j + 1, k, x => aOd f j (k + 1) (if 0 < f k then x + 1 else x)
theorem oddLM {n m j : Nat} {K : Int} {S : Stc} {D : Dyn} {x1 x2 x3 : Int32} (h1 : x1.toInt = (m : Int)) (hm : m < n) (h2 : x2.toInt = (j : Int)) (hj : j ≤ 60) : ∀ (i k N : Nat) (x4 x5 : Int32) (b : Nat) (σ : Sg), i + k = n → i < N → x4.toInt = (b : Int) → b ≤ k → x5.toInt = (k : Int) → HMo n K S D σ →
    Rt (LF_X12_odds N x1 x2 x3 x4 x5 σ) (fun r σ' => (∃ u g : Int32, u.toInt = (aOd (fun o => aHel S j (aStp o 5 D) m) i k b : Int) ∧ g.toInt = (Nat.gcd (aOd (fun o => aHel S j (aStp o 5 D) m) i k b) n : Int) ∧ r = lwV u (nI n) x3 g) ∧ FXz σ σ') := by
  intro i
  induction i with
  | zero =>
    intro k N x4 x5 b σ hi hN h4 hb h5 h
    have hn := h.2.2.2.2.2.1.1
    have n6 := h.1.1
    obtain ⟨N, rfl⟩ : ∃ i, N = i + 1 := ⟨N - 1, by omega⟩
    show Rt (LB_X12_odds_39 (LF_X12_odds N) x1 x2 x3 x4 x5 σ) _
    unfold LB_X12_odds_39
    refine Rt_t (i_le (by omega)) ?_
    have e0 : gi σ 74 0 = nI n := i_eq (by rw [hn, nI_toInt (by omega)])
    obtain ⟨g, g1, g2⟩ := lowM (a := x4) (b := gi σ 74 0) (c := x3) (p := b) (q := n) (σ := σ) h4 (by rw [e0, nI_toInt (by omega)]) n6
    exact Rt_fe g2 (Rt_p ⟨⟨x4, g, h4, g1, by rw [e0]⟩, FXz_rf⟩)
  | succ i ih =>
    intro k N x4 x5 b σ hi hN h4 hb h5 h
    obtain ⟨sb, db, hK, hrr, h99, hs, hd⟩ := id h
    have hn := hs.1
    have n6 := sb.1
    obtain ⟨N, rfl⟩ : ∃ i, N = i + 1 := ⟨N - 1, by omega⟩
    have ex := cl_eq (x := x5) (by omega)
    have ex1 := cl_eq (x := x1) (by omega)
    show Rt (LB_X12_odds_39 (LF_X12_odds N) x1 x2 x3 x4 x5 σ) (fun r σ' => (∃ u g : Int32, u.toInt = (aOd (fun o => aHel S j (aStp o 5 D) m) i (k + 1) (if 0 < aHel S j (aStp k 5 D) m then b + 1 else b) : Int) ∧ g.toInt = (Nat.gcd (aOd (fun o => aHel S j (aStp o 5 D) m) i (k + 1) (if 0 < aHel S j (aStp k 5 D) m then b + 1 else b)) n : Int) ∧ r = lwV u (nI n) x3 g) ∧ FXz σ σ')
    unfold LB_X12_odds_39
    refine Rt_f (i_nle (by omega)) ?_
    rw [show x5.toNatClampNeg = k from by omega, show x1.toNatClampNeg = m from by omega]
    refine Rt_fs (savM n6 hs hd) (fun σ4 ⟨k4, s4, d4, t4, _⟩ => ?_)
    refine Rt_fl (fun σ7 e7 => ?_)
    have k7 : KP σ σ7 := by rw [e7]; exact KP_si (by omega) k4
    have s7 : MS n S σ7 := by rw [e7]; exact MS_si (by omega) s4
    have d7 : MDy n (aStp k 5 D) σ7 := by rw [e7]; exact stpM db (by omega) rfl (by decide +kernel) d4
    have t7 : HTb n 0 (fun _ => 0) σ7 := fun m hm => by rw [e7, gi_si_ne (Or.inl (by decide +kernel))]; exact t4 m hm
    have db7 := aStp_b (r := 5) db (h99 k (by omega)) (by omega) (by decide +kernel)
    refine Rt_fs (gosM9 sb h2 hj (by omega) db7 s7.2 d7) (fun σ8 ⟨d8, f8, t8⟩ => ?_)
    have k8 := KP_q n6 k7 f8
    have t : (gi σ8 132 m).toInt = aHel S j (aStp k 5 D) m := (t8 0 (fun _ => 0) (by omega) t7 m hm).2.trans (Int.zero_add _)
    by_cases c : 0 < aHel S j (aStp k 5 D) m
    · rw [if_pos c]
      refine Rt_f (i_nle (show (0 : Int) < _ by omega)) ?_
      refine Rt_fl (fun v14 e14 => ?_)
      refine Rt_fs (putM k8) (fun σ12 z => ?_)
      refine Rt_fl (fun v13 e13 => ?_)
      exact Rt_w (ih (k + 1) N v14 v13 (b + 1) σ12 (by omega) (by omega) (by rw [e14, i_inc (by omega)]; omega) (by omega) (by rw [e13, i_inc (by omega)]; omega) (HMo_z z h)) (fun r σ' q => ⟨q.1, FXz_tr z q.2⟩)
    · rw [if_neg c]
      refine Rt_t (i_le (show _ ≤ (0 : Int) by omega)) ?_
      refine Rt_fl (fun v14 e14 => ?_)
      refine Rt_fs (putM k8) (fun σ12 z => ?_)
      refine Rt_fl (fun v13 e13 => ?_)
      exact Rt_w (ih (k + 1) N v14 v13 b σ12 (by omega) (by omega) (by rw [e14, i_add (y := (0 : Int32)) (by show (_ : Int) ≤ _ + 0; omega) (by show _ + 0 ≤ (_ : Int); omega)]; show _ + (0 : Int) = _; omega) (by omega) (by rw [e13, i_inc (by omega)]; omega) (HMo_z z h)) (fun r σ' q => ⟨q.1, FXz_tr z q.2⟩)
theorem oddsM {n : Nat} {K : Int} {S : Stc} {D : Dyn} {σ : Sg} {a1 a2 a3 : Int32} (h : HMo n K S D σ) : Rt (F_X12_odds a1 a2 a3 σ) (fun r σ' =>
    ((∃ m j : Nat, a1.toInt = (m : Int) ∧ m < n ∧ a2.toInt = (j : Int) ∧ (1 ≤ j ∧ j ≤ 60) ∧ (0 ≤ a3.toInt ∧ a3.toInt ≤ 1) ∧ ∃ u g : Int32, u.toInt = (aOd (fun o => aHel S j (aStp o 5 D) m) n 0 0 : Int) ∧ g.toInt = (Nat.gcd (aOd (fun o => aHel S j (aStp o 5 D) m) n 0 0) n : Int) ∧ r = lwV u (nI n) a3 g)
      ∨ (¬ ((0 ≤ a1.toInt ∧ a1.toInt < (n : Int)) ∧ (1 ≤ a2.toInt ∧ a2.toInt ≤ 60) ∧ (0 ≤ a3.toInt ∧ a3.toInt ≤ 1)) ∧ r = (-9223372036854775808 : Int64))) ∧ FXz σ σ') := by
  have hs := h.2.2.2.2.2.1
  have n6 := h.1.1
  unfold F_X12_odds
  rw [F_mIs hs.1 n6, fb_e]
  by_cases c1 : 0 ≤ a1.toInt ∧ a1.toInt < (n : Int)
  · rw [if_pos c1]
    refine Rt_f (by decide +kernel) ?_
    refine Rt_fe F_in ?_
    by_cases d : 1 ≤ a2.toInt ∧ a2.toInt ≤ 60
    · rw [if_pos (show (1 : Int32).toInt ≤ a2.toInt ∧ a2.toInt ≤ (60 : Int32).toInt from d)]
      refine Rt_f (by decide +kernel) ?_
      refine Rt_fe F_in ?_
      by_cases c : 0 ≤ a3.toInt ∧ a3.toInt ≤ 1
      · rw [if_pos (show (0 : Int32).toInt ≤ a3.toInt ∧ a3.toInt ≤ (1 : Int32).toInt from c)]
        refine Rt_f (by decide +kernel) ?_
        obtain ⟨j, hj⟩ : ∃ j : Nat, a2.toInt = (j : Int) := ⟨a2.toInt.toNat, by omega⟩
        obtain ⟨m, hm⟩ : ∃ m : Nat, a1.toInt = (m : Int) := ⟨a1.toInt.toNat, by omega⟩
        exact Rt_w (oddLM hm (by omega) hj (by omega) n 0 20 (0 : Int32) (0 : Int32) 0 σ (by omega) (by omega) rfl (by omega) rfl h) (fun r σ' z => ⟨Or.inl ⟨m, j, hm, by omega, hj, by omega, c, z.1⟩, z.2⟩)
      · rw [if_neg (show ¬ ((0 : Int32).toInt ≤ a3.toInt ∧ a3.toInt ≤ (1 : Int32).toInt) from c)]
        exact Rt_t rfl (Rt_p ⟨Or.inr ⟨fun z => c z.2.2, rfl⟩, FXz_rf⟩)
    · rw [if_neg (show ¬ ((1 : Int32).toInt ≤ a2.toInt ∧ a2.toInt ≤ (60 : Int32).toInt) from d)]
      exact Rt_t rfl (Rt_p ⟨Or.inr ⟨fun z => d z.2.1, rfl⟩, FXz_rf⟩)
  · rw [if_neg c1]
    exact Rt_t rfl (Rt_p ⟨Or.inr ⟨fun z => c1 z.1, rfl⟩, FXz_rf⟩)
/-! all that stands of the minutes, alike in both -/
noncomputable def BR (σ : Sg) (a n : Nat) (hi : Int) : Prop := ∀ k, k < n → 0 ≤ (gi σ a k).toInt ∧ (gi σ a k).toInt ≤ hi
noncomputable def BNW (σ : Sg) : Prop := BR σ 103 6 6 ∧ BR σ 104 6 9 ∧ BR σ 105 6 9999 ∧ BR σ 106 6 10 ∧ BR σ 107 6 99 ∧ BR σ 108 6 99 ∧ BR σ 109 24 9
noncomputable def BIM (σ : Sg) : Prop := BR σ 156 6 6 ∧ BR σ 157 6 9 ∧ BR σ 158 6 9999 ∧ BR σ 159 6 10 ∧ BR σ 160 6 99 ∧ BR σ 161 6 99 ∧ BR σ 163 24 9
noncomputable def EQN (σ : Sg) (c a : Nat) : Prop := ∀ m : Nat, m < 6 → ((m : Int) < (gi σ c 1).toInt → gi σ (c + 3) m = gi σ a m ∧ gi σ (c + 4) m = gi σ (a + 1) m ∧ gi σ (c + 5) m = gi σ (a + 2) m ∧ gi σ (c + 6) m = gi σ (a + 3) m) ∧ ((gi σ c 1).toInt ≤ (m : Int) → gi σ (c + 3) m = 0 ∧ gi σ (c + 5) m = 0 ∧ gi σ (c + 6) m = 0)
noncomputable def MN (σ : Sg) : Prop := BNW σ ∧ BIM σ ∧ EQN σ 1 105 ∧ EQN σ 17 158 ∧ gi σ 74 2 = gi σ 74 0 ∧ gi σ 74 28 = (-1 : Int32) ∧ gi σ 1 11 = (-1 : Int32) ∧ gi σ 17 11 = (-1 : Int32)
noncomputable def Rmn (id k : Nat) : Prop := (103 ≤ id ∧ id ≤ 109) ∨ (156 ≤ id ∧ id ≤ 161) ∨ id = 163 ∨ (4 ≤ id ∧ id ≤ 7) ∨ (20 ≤ id ∧ id ≤ 23) ∨ (id = 1 ∧ (k = 1 ∨ k = 11)) ∨ (id = 17 ∧ (k = 1 ∨ k = 11)) ∨ (id = 74 ∧ (k = 0 ∨ k = 2 ∨ k = 28))
theorem BR_eq {σ σ' : Sg} {a n : Nat} {hi : Int} (e : ∀ k, k < n → gi σ' a k = gi σ a k) (h : BR σ a n hi) : BR σ' a n hi := fun k hk => by rw [e k hk]; exact h k hk
theorem BNW_eq {σ σ' : Sg} (e : ∀ id k, 103 ≤ id → id ≤ 109 → gi σ' id k = gi σ id k) (h : BNW σ) : BNW σ' := by
  obtain ⟨h1, h2, h3, h4, h5, h6, h7⟩ := h
  exact ⟨BR_eq (fun k _ => e 103 k (by decide +kernel) (by decide +kernel)) h1, BR_eq (fun k _ => e 104 k (by decide +kernel) (by decide +kernel)) h2, BR_eq (fun k _ => e 105 k (by decide +kernel) (by decide +kernel)) h3, BR_eq (fun k _ => e 106 k (by decide +kernel) (by decide +kernel)) h4, BR_eq (fun k _ => e 107 k (by decide +kernel) (by decide +kernel)) h5, BR_eq (fun k _ => e 108 k (by decide +kernel) (by decide +kernel)) h6, BR_eq (fun k _ => e 109 k (by decide +kernel) (by decide +kernel)) h7⟩
theorem BIM_eq {σ σ' : Sg} (e : ∀ id k, 156 ≤ id → id ≤ 163 → id ≠ 162 → gi σ' id k = gi σ id k) (h : BIM σ) : BIM σ' := by
  obtain ⟨h1, h2, h3, h4, h5, h6, h7⟩ := h
  exact ⟨BR_eq (fun k _ => e 156 k (by decide +kernel) (by decide +kernel) (by decide +kernel)) h1, BR_eq (fun k _ => e 157 k (by decide +kernel) (by decide +kernel) (by decide +kernel)) h2, BR_eq (fun k _ => e 158 k (by decide +kernel) (by decide +kernel) (by decide +kernel)) h3, BR_eq (fun k _ => e 159 k (by decide +kernel) (by decide +kernel) (by decide +kernel)) h4, BR_eq (fun k _ => e 160 k (by decide +kernel) (by decide +kernel) (by decide +kernel)) h5, BR_eq (fun k _ => e 161 k (by decide +kernel) (by decide +kernel) (by decide +kernel)) h6, BR_eq (fun k _ => e 163 k (by decide +kernel) (by decide +kernel) (by decide +kernel)) h7⟩
theorem EQN_eq {σ σ' : Sg} {c a : Nat} (e1 : (gi σ' c 1).toInt = (gi σ c 1).toInt) (e : ∀ id k, (c + 3 ≤ id ∧ id ≤ c + 6) ∨ (a ≤ id ∧ id ≤ a + 3) → gi σ' id k = gi σ id k) (h : EQN σ c a) : EQN σ' c a := by
  intro m hm
  rw [e1, e (c + 3) m (by omega), e (c + 4) m (by omega), e (c + 5) m (by omega), e (c + 6) m (by omega), e a m (by omega), e (a + 1) m (by omega), e (a + 2) m (by omega), e (a + 3) m (by omega)]
  exact h m hm
theorem MN_eq {σ σ' : Sg} (e : ∀ id k, Rmn id k → gi σ' id k = gi σ id k) (h : MN σ) : MN σ' := by
  obtain ⟨h1, h2, h3, h4, h5, h6, h7, h8⟩ := h
  exact ⟨BNW_eq (fun id k a b => e id k (by unfold Rmn; omega)) h1, BIM_eq (fun id k a b c => e id k (by unfold Rmn; omega)) h2, EQN_eq (by rw [e 1 1 (by unfold Rmn; omega)]) (fun id k a => e id k (by unfold Rmn; omega)) h3, EQN_eq (by rw [e 17 1 (by unfold Rmn; omega)]) (fun id k a => e id k (by unfold Rmn; omega)) h4, by rw [e 74 2 (by unfold Rmn; omega), e 74 0 (by unfold Rmn; omega)]; exact h5, by rw [e 74 28 (by unfold Rmn; omega)]; exact h6, by rw [e 1 11 (by unfold Rmn; omega)]; exact h7, by rw [e 17 11 (by unfold Rmn; omega)]; exact h8⟩
theorem MN_x {S : Nat → Prop} {F : Nat → Nat → Prop} {σ σ' : Sg} (f : FX S F σ σ') (h : ∀ id k, Rmn id k → ¬ S id ∧ ¬ F id k) (q : MN σ) : MN σ' := MN_eq (fun id k a => f.1 id k (h id k a).1 (h id k a).2) q
theorem MN_m {S F : List Nat} {σ σ' : Sg} (f : Fr S F σ σ') (h : ∀ id ∈ S, (74 ≤ id ∧ id < 103) ∨ (109 < id ∧ id < 156) ∨ id = 162 ∨ (163 < id ∧ id < 1000)) (hF : ∀ k ∈ F, k ≠ 0 ∧ k ≠ 2 ∧ k ≠ 28) (q : MN σ) : MN σ' := by
  refine MN_eq (fun id k a => ?_) q
  by_cases e : id = 74
  · subst e
    exact f.2.1 k (fun z => by have := hF k z; unfold Rmn at a; omega)
  · exact congrFun (f.1 id (fun z => by have := h id z; unfold Rmn at a; omega)).1 k
theorem MN_z {σ σ' : Sg} (f : FXz σ σ') (q : MN σ) : MN σ' := MN_eq (fun id k a => FXz_i f (by unfold Rmn at a; omega)) q
theorem lastW_b {w : Nat} : ∀ (cl : List Cls) (d : Nat), PW cl → d ≤ 99 → lastW w d cl ≤ 99 := by
  intro cl
  induction cl with
  | nil => intro d _ h; exact h
  | cons c cl ih =>
    intro d hp hd
    have hc := hp c List.mem_cons_self
    show lastW w (if c.1 = w then c.2.1 else d) cl ≤ 99
    refine ih _ (fun x hx => hp x (List.mem_cons_of_mem _ hx)) ?_
    split
    · exact hc.2.1
    · exact hd
/-- the field that holds, in both -/
theorem HLD_get {σ : Sg} (q : RF σ) (h5 : (gi σ 74 11).toInt ≤ 6) : ∃ (cl : List Cls) (f : Nat), gr σ 1 10 = some f ∧ (f = 69 ∨ 1000 ≤ f) ∧ FdA σ f cl ∧ MH σ cl ∧ PW cl ∧ cl.length ≤ 10 ∧ (toksOf cl).length ≤ 100 := by
  obtain ⟨⟨-, ⟨f1, -, -, f3⟩, b, -⟩, h, -⟩ := q
  rcases h with ⟨a, g⟩ | ⟨k, a, c, g⟩
  · exact ⟨[], 69, g, Or.inl rfl, b, Or.inl ⟨a, rfl⟩, (fun c hc => absurd hc List.not_mem_nil), Nat.zero_le _, Nat.zero_le _⟩
  · obtain ⟨cl, k1, k2, k3, k4, k5, k6⟩ := f3 k (by omega)
    exact ⟨cl, 1000 + 5 * k, g, Or.inr (by omega), k1, Or.inr ⟨k, a, by omega, k2, k3⟩, k5, k4, k6⟩
/-- both states, known -/
theorem HX {V : Vx} {σ : Sg} (q : RELF σ) (mn : MN σ) (hI : INV V σ) : ∃ (n : Nat) (S : Stc) (D : Dyn), (n : Int) = (gi σ 1 1).toInt ∧ HMo n 9999 S D σ ∧ CS 1 n S σ ∧ CDy 1 n D σ ∧ (∀ p, p < n → S_ln S p = (gi σ 110 p).toNatClampNeg) ∧ (∀ k, D_at D k = (gi σ 105 k).toInt) ∧ D_m D = (gi σ 74 1).toInt := by
  obtain ⟨⟨⟨s1, s2, s3, s4, s5, s6, s7, s8, -⟩, -, ⟨-, rl, -, rt, -, rk, -⟩⟩, rf⟩ := q
  obtain ⟨⟨b1, b2, b3, b4, b5, b6, b7⟩, -, eq, -, m2, m28, m11, -⟩ := mn
  have hm := MI_f0 hI.2.1
  have h1 := MI_f1 hI.2.1
  have h9 := hI.2.2.2.2.2.2.1
  have h13 := hI.1.2.2.2.1
  have nn := hI.1.2.1.1
  obtain ⟨cl, f, g10, hf, fa, mh, pw, cl10, tk⟩ := HLD_get rf (MI_f11 hI.2.1).2
  obtain ⟨n, hn⟩ : ∃ n : Nat, (n : Int) = (gi σ 1 1).toInt := ⟨(gi σ 1 1).toInt.toNat, by omega⟩
  have m2' : (gi σ 74 2).toInt = (n : Int) := by rw [m2]; omega
  have m28' : (gi σ 74 28).toInt = -1 := by rw [m28]; rfl
  have m11' : (gi σ 1 11).toInt = -1 := by rw [m11]; rfl
  have ln : ∀ p, p < n → 0 ≤ (gi σ 110 p).toInt ∧ (gi σ 110 p).toInt < (n : Int) := fun p hp => by
    have a := nn p (by omega)
    have b := rl p (by omega)
    have c := XI_c1 hI.1.1 (lim_C2 (c := 1) (Or.inl rfl) p)
    have b' : gi σ 3 p = gi σ 110 p := b
    have a' : (gi σ 3 p).toInt < (gi σ 1 1).toInt := a
    have c' : 0 ≤ (gi σ 3 p).toInt ∧ (gi σ 3 p).toInt ≤ 5 := c
    rw [b'] at a' c'
    omega
  refine ⟨n, (n, (fun p => (gi σ 110 p).toNatClampNeg), (fun m => (gi σ 103 m).toInt), (fun m => (gi σ 104 m).toInt), (fun k => (gi σ 109 k).toInt), (lastW 2 2 cl : Int), (lastW 3 1 cl : Int), cl), ((gi σ 74 1).toInt, (fun m => (gi σ 105 m).toInt), (fun m => (gi σ 106 m).toInt), (fun m => (gi σ 107 m).toInt), (fun m => (gi σ 108 m).toInt)), hn, ⟨⟨by omega, Nat.le_refl n, fun p hp => ?_, fun m hm => ⟨b1 m (by omega), b2 m (by omega)⟩, fun k hk => b7 k hk, ?_, ?_, pw, cl10, tk⟩, ⟨by show 0 ≤ (gi σ 74 1).toInt ∧ (gi σ 74 1).toInt ≤ 9999; omega, fun m hm => ⟨b3 m (by omega), b4 m (by omega), b5 m (by omega), ?_⟩⟩, by decide +kernel, rfl, fun m hm => (b6 m (by omega)).2, ⟨by omega, m2', fun p hp => ?_, fun m hm => rfl, fun m hm => rfl, fun k hk => rfl, mh, rfl, Or.inr ⟨by omega, rfl⟩⟩, ⟨rfl, fun m hm => rfl, fun m hm => rfl, fun m hm => rfl, fun m hm => rfl⟩⟩, ⟨hn.symm, by show (gi σ 1 3).toInt = (n : Int); omega, fun p hp => ?_, fun m hm => ?_, fun k hk => by show (gi σ 8 k).toInt = (gi σ 109 k).toInt; rw [rt.1 k hk], ⟨f, g10, hf, fa⟩, rfl, Or.inr ⟨by omega, rfl⟩⟩, ⟨s8, fun m hm => ?_, fun m hm => ?_, fun m hm => ?_, fun m hm => ?_⟩, fun p hp => rfl, fun k => rfl, rfl⟩
  · have hp : p < n := hp
    have := ln p hp
    have := cl_eq (x := gi σ 110 p) (by omega)
    show (gi σ 110 p).toNatClampNeg < n
    omega
  · have := lastW_b (w := 2) cl 2 pw (by decide +kernel)
    show 0 ≤ (lastW 2 2 cl : Int) ∧ (lastW 2 2 cl : Int) ≤ 99
    omega
  · have := lastW_b (w := 3) cl 1 pw (by decide +kernel)
    show 0 ≤ (lastW 3 1 cl : Int) ∧ (lastW 3 1 cl : Int) ≤ 99
    omega
  · have := b6 m (by omega)
    show 0 ≤ (gi σ 108 m).toInt ∧ (gi σ 108 m).toInt ≤ 1000
    omega
  · have hp : p < n := hp
    exact (cl_eq (ln p hp).1).symm
  · have hp : p < n := hp
    show (gi σ 3 p).toInt = (((gi σ 110 p).toNatClampNeg : Nat) : Int)
    rw [rl p (by omega)]
    exact (cl_eq (ln p hp).1).symm
  · obtain ⟨μ, κ, a1, a2, a3, a4, a5, a6, a7, a8⟩ := rk m (by omega)
    exact ⟨μ, κ, a1, a2, a3, a4, a5, a6, a7, congrArg Int32.toInt a8⟩
  · show (gi σ 4 m).toInt = (gi σ 105 m).toInt
    rw [((eq m (by omega)).1 (by omega)).1]
  · show (gi σ 5 m).toInt = (gi σ 106 m).toInt
    rw [((eq m (by omega)).1 (by omega)).2.1]
  · show (gi σ 6 m).toInt = (gi σ 107 m).toInt
    rw [((eq m (by omega)).1 (by omega)).2.2.1]
  · show (gi σ 7 m).toInt = (gi σ 108 m).toInt
    rw [((eq m (by omega)).1 (by omega)).2.2.2]
theorem HMo_ma {n : Nat} {K : Int} {S : Stc} {D : Dyn} {σ σ' : Sg} (f : MA σ σ') (h : HMo n K S D σ) : HMo n K S D σ' :=
  ⟨h.1, h.2.1, h.2.2.1, h.2.2.2.1, h.2.2.2.2.1, MS_eq (fun id k a => f id (by omega) (by omega) k) h.2.2.2.2.2.1, MDy_eq (fun id k a => f id (by omega) (by omega) k) h.2.2.2.2.2.2⟩
/-! the minutes' numbers: how minute, whet, pause, set, row, mower, image, undo keep them -/
theorem aGo_st {n : Nat} {s : Int} {S : Stc} {D : Dyn} {p : Nat} {X : Int} (h : ∀ m, m < n → D_st D m ≤ X) : ∀ m, m < n → D_st (aGo S s D p) m ≤ X := by
  intro m hm
  unfold aGo
  split
  · show upi (D_st D) (S_ln S p) (D_st D (S_ln S p) - 1) m ≤ X
    by_cases e : m = S_ln S p
    · subst e; rw [upi_e]; have := h _ hm; omega
    · rw [upi_n e]; exact h m hm
  · split <;> exact h m hm
theorem aGos_st {n : Nat} {S : Stc} {st : Nat → Int} {X : Int} : ∀ (k p : Nat) (l : List Nat) (D : Dyn), (∀ m, m < n → D_st D m ≤ X) → ∀ m, m < n → D_st (aGos S st k p l D).2 m ≤ X := by
  intro k
  induction k with
  | zero => intro p l D h; exact h
  | succ k ih => intro p l D h; exact ih (p + 1) _ _ (aGo_st h)
theorem aMin_st {n : Nat} {S : Stc} {D : Dyn} {X : Int} (h : ∀ m, m < n → D_st D m ≤ X) : ∀ m, m < n → D_st (aMin S D).2 m ≤ X := aGos_st _ _ _ _ h
theorem pos0_le {x k : Int} (h : x ≤ k) (hk : 0 ≤ k) : pos0 x ≤ k := (pos0_b h hk).2
/-- both go from known numbers to the same -/
theorem MN_dy {n : Nat} {K : Int} {D : Dyn} {σ σ1 σ2 : Sg} (n6 : n ≤ 6) (hn : (n : Int) = (gi σ 1 1).toInt) (db : DBd n K D) (h99 : ∀ m, m < n → D_st D m ≤ 99) (f : FXn 1 n σ σ1) (c : CDy 1 n D σ1) (g : FXq n σ1 σ2) (m : MDy n D σ2) (q : MN σ) : MN σ2 := by
  obtain ⟨⟨b1, b2, b3, b4, b5, b6, b7⟩, bi, e1, e2, m2, m28, m11, m17⟩ := q
  have gg : ∀ id k, ¬ ((4 ≤ id ∧ id ≤ 7) ∧ k < n) → ¬ (id = 15 ∨ id = 16) → ¬ (id = 1 ∧ k = 9) → ¬ ((105 ≤ id ∧ id ≤ 108) ∧ k < n) → id ≠ 129 → id ≠ 131 → id ≠ 132 → ¬ (id = 74 ∧ (k = 1 ∨ k = 30)) → gi σ2 id k = gi σ id k := fun id k a1 a2 a3 a4 a5 a6 a7 a8 => by rw [FXq_i g (by omega), FXn_i f (by omega)]
  have cc : ∀ id k, id < 74 → gi σ2 id k = gi σ1 id k := fun id k a => FXq_i g (by omega)
  obtain ⟨d1, d2, d3, d4, d5⟩ := DBd_i.mp db
  obtain ⟨c1, c2, c3, c4, c5⟩ := c
  obtain ⟨k1, k2, k3, k4, k5⟩ := m
  have br : ∀ (a : Nat) (hi : Int) (v : Nat → Int), (105 ≤ a ∧ a ≤ 108) → BR σ a 6 hi → (∀ m, m < n → (gi σ2 a m).toInt = v m) → (∀ m, m < n → 0 ≤ v m ∧ v m ≤ hi) → BR σ2 a 6 hi := by
    intro a hi v ha hb hv hr k hk
    by_cases e : k < n
    · rw [hv k e]; exact hr k e
    · rw [gg a k (by omega) (by omega) (by omega) (by omega) (by omega) (by omega) (by omega) (by omega)]; exact hb k hk
  refine ⟨⟨BR_eq (fun k _ => gg 103 k (by omega) (by omega) (by omega) (by omega) (by omega) (by omega) (by omega) (by omega)) b1, BR_eq (fun k _ => gg 104 k (by omega) (by omega) (by omega) (by omega) (by omega) (by omega) (by omega) (by omega)) b2, br 105 _ _ (by omega) b3 k2 d2, br 106 _ _ (by omega) b4 k3 d3, br 107 _ _ (by omega) b5 k4 d4, br 108 _ _ (by omega) b6 k5 (fun m hm => ⟨(d5 m hm).1, h99 m hm⟩), BR_eq (fun k _ => gg 109 k (by omega) (by omega) (by omega) (by omega) (by omega) (by omega) (by omega) (by omega)) b7⟩, BIM_eq (fun id k a b c => gg id k (by omega) (by omega) (by omega) (by omega) (by omega) (by omega) (by omega) (by omega)) bi, ?_, EQN_eq (by rw [gg 17 1 (by omega) (by omega) (by omega) (by omega) (by omega) (by omega) (by omega) (by omega)]) (fun id k a => gg id k (by omega) (by omega) (by omega) (by omega) (by omega) (by omega) (by omega) (by omega)) e2, by rw [gg 74 2 (by omega) (by omega) (by omega) (by omega) (by omega) (by omega) (by omega) (by omega), gg 74 0 (by omega) (by omega) (by omega) (by omega) (by omega) (by omega) (by omega) (by omega)]; exact m2, by rw [gg 74 28 (by omega) (by omega) (by omega) (by omega) (by omega) (by omega) (by omega) (by omega)]; exact m28, by rw [gg 1 11 (by omega) (by omega) (by omega) (by omega) (by omega) (by omega) (by omega) (by omega)]; exact m11, by rw [gg 17 11 (by omega) (by omega) (by omega) (by omega) (by omega) (by omega) (by omega) (by omega)]; exact m17⟩
  intro m hm
  have e11 : gi σ2 1 1 = gi σ 1 1 := gg 1 1 (by omega) (by omega) (by omega) (by omega) (by omega) (by omega) (by omega) (by omega)
  rw [e11, ← hn]
  refine ⟨fun h => ?_, fun h => ?_⟩
  · have h : m < n := by omega
    exact ⟨i_eq (by rw [cc _ _ (by decide +kernel), c2 m h, k2 m h]), i_eq (by rw [cc _ _ (by decide +kernel), c3 m h, k3 m h]), i_eq (by rw [cc _ _ (by decide +kernel), c4 m h, k4 m h]), i_eq (by rw [cc _ _ (by decide +kernel), c5 m h, k5 m h])⟩
  · have := (e1 m hm).2 (by omega)
    rw [gg (1 + 3) m (by omega) (by omega) (by omega) (by omega) (by omega) (by omega) (by omega) (by omega), gg (1 + 5) m (by omega) (by omega) (by omega) (by omega) (by omega) (by omega) (by omega) (by omega), gg (1 + 6) m (by omega) (by omega) (by omega) (by omega) (by omega) (by omega) (by omega) (by omega)]
    exact this
theorem aGos_m {S : Stc} {st : Nat → Int} : ∀ (k p : Nat) (l : List Nat) (D : Dyn), D_m (aGos S st k p l D).2 = D_m D + 1 := by
  intro k
  induction k with
  | zero => intro p l D; rfl
  | succ k ih =>
    intro p l D
    have h := ih (p + 1) (if aHd S (st p) D p = true then l ++ [S_ln S p] else l) (aGo S (st p) D p)
    rw [aGo_m] at h
    exact h
theorem aMin_m {S : Stc} {D : Dyn} : D_m (aMin S D).2 = D_m D + 1 := aGos_m _ _ _ _
theorem MA_n {c0 n : Nat} {σ σ1 : Sg} (hc : c0 ≤ 33) (f : FXn c0 n σ σ1) : MA σ σ1 := fun id a b k => FXn_i f (by omega)
theorem MN_minute {V : Vx} {r1 r2 : Int32} {σ σ1 σ2 : Sg} (q : RELF σ) (mn : MN σ) (hI : INV V σ) (h1 : F_X11_minute σ = (r1, σ1)) (h2 : F_X12_minute σ1 = (r2, σ2)) : (MN σ2 ∧ r1 = r2) ∧ MNA (gi σ 1 9) (gi σ1 1 9) ∧ MNA (gi σ1 74 1) (gi σ2 74 1) := by
  obtain ⟨n, S, D, hn, hm, cs, cd, -⟩ := HX q mn hI
  obtain ⟨sb, db, hK, hr, h99, ms, md⟩ := id hm
  have e9 := cd.1
  have k9 := md.1
  have dm := db.1
  unfold F_X11_minute at h1
  unfold F_X12_minute at h2
  by_cases c : (gi σ 1 9).toInt < 9999
  · rw [if_pos (i_lt (show _ < (9999 : Int) from c))] at h1
    obtain ⟨a1, a2, a3⟩ := minC (c0 := 1) (by decide +kernel) sb db (by omega) cs cd
    have hm1 := HMo_ma (MA_n (by decide +kernel) a3) hm
    rw [show F_X1_goesMinute 1 σ = ((F_X1_goesMinute 1 σ).1, (F_X1_goesMinute 1 σ).2) from rfl, fb_e] at h1
    obtain ⟨rfl, rfl⟩ := Prod.mk.inj h1
    have n1 : (gi (F_X1_goesMinute 1 σ).2 74 1).toInt = D_m D := hm1.2.2.2.2.2.2.1
    rw [if_neg (i_ne (show _ ≠ (9999 : Int) by omega))] at h2
    obtain ⟨b1, b2, b3, -⟩ := minM sb db (by omega) hm1.2.2.2.2.2.1.2 hm1.2.2.2.2.2.2
    rw [show F_X12_goMinute (F_X1_goesMinute 1 σ).2 = ((F_X12_goMinute (F_X1_goesMinute 1 σ).2).1, (F_X12_goMinute (F_X1_goesMinute 1 σ).2).2) from rfl, fb_e] at h2
    obtain ⟨rfl, rfl⟩ := Prod.mk.inj h2
    have mm := aMin_m (S := S) (D := D)
    have u1 := a2.1
    have u2 := b2.1
    exact ⟨⟨MN_dy sb.1 hn (aMin_b sb db) (aMin_st h99) a3 a2 b3 b2 mn, a1.trans b1.symm⟩, ⟨fun h => by omega, fun h => by omega⟩, ⟨fun h => by omega, fun h => by omega⟩⟩
  · rw [if_neg (i_nlt (show (9999 : Int) ≤ _ by omega))] at h1
    obtain ⟨rfl, rfl⟩ := Prod.mk.inj h1
    rw [if_pos (i_eq (show _ = (9999 : Int) by omega))] at h2
    obtain ⟨rfl, rfl⟩ := Prod.mk.inj h2
    exact ⟨⟨mn, rfl⟩, ⟨fun h => rfl, fun h => by omega⟩, ⟨fun h => rfl, fun h => by omega⟩⟩
theorem MN_whet {V : Vx} {r1 r2 : Int32} {σ σ1 σ2 : Sg} (q : RELF σ) (mn : MN σ) (hI : INV V σ) (h1 : F_X11_whet σ = (r1, σ1)) (h2 : F_X12_whet σ1 = (r2, σ2)) : MN σ2 ∧ WHA r1 (gi σ 1 9) (gi σ1 1 9) ∧ WHA r2 (gi σ1 74 1) (gi σ2 74 1) := by
  obtain ⟨n, S, D, hn, hm, cs, cd, -⟩ := HX q mn hI
  obtain ⟨sb, db, hK, hr, h99, ms, md⟩ := id hm
  have e9 := cd.1
  have k9 := md.1
  have dm := db.1
  unfold F_X11_whet at h1
  unfold F_X12_whet at h2
  by_cases c : (gi σ 1 9).toInt < 9999
  · rw [if_pos (i_lt (show _ < (9999 : Int) from c))] at h1
    obtain ⟨a2, a3⟩ := whetC (c0 := 1) (by decide +kernel) sb db (by omega) cs cd
    have hm1 := HMo_ma (MA_n (by decide +kernel) a3) hm
    rw [fl_e] at h1
    obtain ⟨er1, rfl⟩ := Prod.mk.inj h1
    have n1 : (gi (F_X1_whetsAll 1 σ) 74 1).toInt = D_m D := hm1.2.2.2.2.2.2.1
    rw [if_neg (i_ne (show _ ≠ (9999 : Int) by omega)), fl_e] at h2
    obtain ⟨b2, b3⟩ := whetM sb db (by omega) hm1.2.2.2.2.2.1 hm1.2.2.2.2.2.2
    obtain ⟨er2, rfl⟩ := Prod.mk.inj h2
    have u1 : _ = D_m D + 1 := a2.1
    have u2 : _ = D_m D + 1 := b2.1
    have w1 := congrArg Int32.toInt er1
    have w2 := congrArg Int32.toInt er2
    exact ⟨MN_dy sb.1 hn (aWhe_b db) (fun m hm' => pos0_le (by have := h99 m hm'; omega) (by decide +kernel)) a3 a2 b3 b2 mn, ⟨fun h => by omega, fun h => ⟨by omega, by omega⟩⟩, ⟨fun h => by omega, fun h => ⟨by omega, by omega⟩⟩⟩
  · rw [if_neg (i_nlt (show (9999 : Int) ≤ _ by omega))] at h1
    obtain ⟨rfl, rfl⟩ := Prod.mk.inj h1
    rw [if_pos (i_eq (show _ = (9999 : Int) by omega))] at h2
    obtain ⟨rfl, rfl⟩ := Prod.mk.inj h2
    exact ⟨mn, ⟨fun h => ⟨rfl, rfl⟩, fun h => by omega⟩, ⟨fun h => ⟨rfl, rfl⟩, fun h => by omega⟩⟩
theorem MN_pause {V : Vx} {a r1 r2 : Int32} {σ σ1 σ2 : Sg} (q : RELF σ) (mn : MN σ) (hI : INV V σ) (h1 : F_X11_pause a σ = (r1, σ1)) (h2 : F_X12_pause a σ1 = (r2, σ2)) : MN σ2 ∧ PAA r1 a (gi σ 1 9) (gi σ1 1 9) ∧ PAA r2 a (gi σ1 74 1) (gi σ2 74 1) := by
  obtain ⟨n, S, D, hn, hm, cs, cd, -⟩ := HX q mn hI
  obtain ⟨sb, db, hK, hr, h99, ms, md⟩ := id hm
  have e9 := cd.1
  have k9 := md.1
  have dm := db.1
  unfold F_X11_pause at h1
  unfold F_X12_pause at h2
  rw [F_in, fb_e] at h2
  by_cases c0 : a.toInt < 1
  · rw [if_pos (i_lt (show _ < (1 : Int) from c0))] at h1
    obtain ⟨rfl, rfl⟩ := Prod.mk.inj h1
    rw [if_neg (show ¬ ((1 : Int32).toInt ≤ a.toInt ∧ a.toInt ≤ (60 : Int32).toInt) from fun z => by have : (1 : Int) ≤ a.toInt := z.1; omega), if_pos rfl] at h2
    obtain ⟨rfl, rfl⟩ := Prod.mk.inj h2
    exact ⟨mn, ⟨fun h => ⟨rfl, rfl⟩, fun h _ => by omega⟩, ⟨fun h => ⟨rfl, rfl⟩, fun h _ => by omega⟩⟩
  rw [if_neg (i_nlt (show (1 : Int) ≤ _ by omega))] at h1
  by_cases c1 : a.toInt ≤ 60
  · rw [if_pos (i_le (show _ ≤ (60 : Int) from c1))] at h1
    rw [if_pos (show (1 : Int32).toInt ≤ a.toInt ∧ a.toInt ≤ (60 : Int32).toInt from ⟨by show (1 : Int) ≤ _; omega, c1⟩), if_neg (show ¬ (1 : Int32) = 0 by decide +kernel)] at h2
    obtain ⟨j, hj⟩ : ∃ j : Nat, a.toInt = (j : Int) := ⟨a.toInt.toNat, by omega⟩
    have s9 : (gi σ 1 9 + a).toInt = D_m D + (j : Int) := by rw [i_add (by omega) (by omega), e9, hj]
    by_cases c : D_m D + (j : Int) ≤ 9999
    · rw [if_pos (i_le (show _ ≤ (9999 : Int) by omega)), fl_e] at h1
      obtain ⟨a2, a3⟩ := restC (c0 := 1) (by decide +kernel) sb db (by omega) hj (by omega) cs cd
      have hm1 := HMo_ma (MA_n (by decide +kernel) a3) hm
      obtain ⟨er1, rfl⟩ := Prod.mk.inj h1
      have n1 : (gi (F_X1_rests 1 a σ) 74 1).toInt = D_m D := hm1.2.2.2.2.2.2.1
      have t9 : (gi (F_X1_rests 1 a σ) 74 1 + a).toInt = D_m D + (j : Int) := by rw [i_add (by omega) (by omega), n1, hj]
      rw [if_pos (i_le (show _ ≤ (9999 : Int) by omega)), fl_e] at h2
      obtain ⟨b2, b3⟩ := pausM sb db (by omega) hj (by omega) hm1.2.2.2.2.2.1 hm1.2.2.2.2.2.2
      obtain ⟨er2, rfl⟩ := Prod.mk.inj h2
      have u1 : _ = D_m D + (j : Int) := a2.1
      have u2 : _ = D_m D + (j : Int) := b2.1
      have w1 := congrArg Int32.toInt er1
      have w2 := congrArg Int32.toInt er2
      exact ⟨MN_dy sb.1 hn (aPas_b db (by omega) (by omega)) (fun m hm' => pos0_le (by have := h99 m hm'; omega) (by decide +kernel)) a3 a2 b3 b2 mn, ⟨fun h => by omega, fun _ _ => ⟨fun h => by omega, fun h => ⟨by omega, by omega⟩⟩⟩, ⟨fun h => by omega, fun _ _ => ⟨fun h => by omega, fun h => ⟨by omega, by omega⟩⟩⟩⟩
    · rw [if_neg (i_nle (show (9999 : Int) < _ by omega))] at h1
      obtain ⟨rfl, rfl⟩ := Prod.mk.inj h1
      have t9 : (gi σ 74 1 + a).toInt = D_m D + (j : Int) := by rw [i_add (by omega) (by omega), k9, hj]
      rw [if_neg (i_nle (show (9999 : Int) < _ by omega))] at h2
      obtain ⟨rfl, rfl⟩ := Prod.mk.inj h2
      exact ⟨mn, ⟨fun h => by omega, fun _ _ => ⟨fun h => ⟨rfl, rfl⟩, fun h => by omega⟩⟩, ⟨fun h => by omega, fun _ _ => ⟨fun h => ⟨rfl, rfl⟩, fun h => by omega⟩⟩⟩
  · rw [if_neg (i_nle (show (60 : Int) < _ by omega))] at h1
    obtain ⟨rfl, rfl⟩ := Prod.mk.inj h1
    rw [if_neg (show ¬ ((1 : Int32).toInt ≤ a.toInt ∧ a.toInt ≤ (60 : Int32).toInt) from fun z => by have : a.toInt ≤ (60 : Int) := z.2; omega), if_pos rfl] at h2
    obtain ⟨rfl, rfl⟩ := Prod.mk.inj h2
    exact ⟨mn, ⟨fun h => ⟨rfl, rfl⟩, fun _ h => by omega⟩, ⟨fun h => ⟨rfl, rfl⟩, fun _ h => by omega⟩⟩
/-! set -/
noncomputable def slm (j : Nat) : Int := if j = 0 then 9999 else if j = 1 then 10 else 99
noncomputable def SETP (a n : Nat) (a1 a2 a3 : Int32) (σ : Sg) (r : Int32) (σ' : Sg) : Prop :=
  (∃ m j : Nat, a1.toInt = (m : Int) ∧ m < n ∧ a2.toInt = (j : Int) ∧ j < 4 ∧ (0 ≤ a3.toInt ∧ a3.toInt ≤ slm j) ∧ r = gi σ (a + j) m ∧ σ' = si σ (a + j) m a3)
  ∨ (σ' = σ ∧ ((¬ ((0 ≤ a1.toInt ∧ a1.toInt < (n : Int)) ∧ (0 ≤ a2.toInt ∧ a2.toInt ≤ 3)) ∧ r = (-1 : Int32)) ∨ (((0 ≤ a1.toInt ∧ a1.toInt < (n : Int)) ∧ (0 ≤ a2.toInt ∧ a2.toInt ≤ 3)) ∧ ¬ (0 ≤ a3.toInt ∧ a3.toInt ≤ slm a2.toInt.toNat) ∧ r = (-2 : Int32))))
theorem st4M {n m j : Nat} {a1 a2 a3 z : Int32} {σ : Sg} (h1 : a1.toInt = (m : Int)) (hm : m < n) (h2 : a2.toInt = (j : Int)) (hj : j < 4) (hz : z.toInt = slm j) : Rt (LF_X12_set 9 0 a1 a2 a3 z (0 : Int32) a3 0 σ) (SETP 105 n a1 a2 a3 σ) := by
  have ex := cl_eq (x := a1) (by omega)
  have ep : a1.toNatClampNeg = m := by omega
  show Rt (LB_X12_set_45 (LF_X12_set 8) a1 a2 a3 z (0 : Int32) a3 σ) _
  unfold LB_X12_set_45
  refine Rt_fe F_in ?_
  have z0 : (0 : Int32).toInt = 0 := rfl
  have j0 : (a2 = 0) ↔ j = 0 := ⟨fun e => by rw [e] at h2; omega, fun e => i_eq (show _ = (0 : Int) by omega)⟩
  have j1 : (a2 = (1 : Int32)) ↔ j = 1 := ⟨fun e => by rw [e] at h2; have z1 : (1 : Int32).toInt = 1 := rfl; omega, fun e => i_eq (show _ = (1 : Int) by omega)⟩
  have j2 : (a2 = (2 : Int32)) ↔ j = 2 := ⟨fun e => by rw [e] at h2; have z1 : (2 : Int32).toInt = 2 := rfl; omega, fun e => i_eq (show _ = (2 : Int) by omega)⟩
  have j3 : (a2 = (3 : Int32)) ↔ j = 3 := ⟨fun e => by rw [e] at h2; have z1 : (3 : Int32).toInt = 3 := rfl; omega, fun e => i_eq (show _ = (3 : Int) by omega)⟩
  by_cases c : 0 ≤ a3.toInt ∧ a3.toInt ≤ slm j
  · rw [if_pos (show (0 : Int32).toInt ≤ a3.toInt ∧ a3.toInt ≤ z.toInt by omega)]
    refine Rt_f (by decide +kernel) ?_
    rw [ep]
    have s2 : ∀ (v : Int32) (τ : Sg), ¬ j = 3 → v = gi σ (105 + j) m → τ = si σ (105 + j) m a3 → Rt (LF_X12_set 7 2 a1 a2 a3 0 0 0 v τ) (SETP 105 n a1 a2 a3 σ) := by
      intro v τ h3 e1 e2
      show Rt (LB_X12_set_138 (LF_X12_set 6) a1 a2 a3 v τ) _
      unfold LB_X12_set_138
      exact Rt_f (fun e => h3 (j3.mp e)) (Rt_p (Or.inl ⟨m, j, h1, hm, h2, hj, c, e1, e2⟩))
    have s1 : ∀ (v : Int32) (τ : Sg), ¬ j = 1 → ¬ j = 2 → ¬ j = 3 → v = gi σ (105 + j) m → τ = si σ (105 + j) m a3 → Rt (LF_X12_set 8 1 a1 a2 a3 0 0 0 v τ) (SETP 105 n a1 a2 a3 σ) := by
      intro v τ q1 q2 q3 e1 e2
      show Rt (LB_X12_set_114 (LF_X12_set 7) a1 a2 a3 v τ) _
      unfold LB_X12_set_114
      exact Rt_f (fun e => q1 (j1.mp e)) (Rt_f (fun e => q2 (j2.mp e)) (s2 v τ q3 e1 e2))
    rcases (show j = 0 ∨ j = 1 ∨ j = 2 ∨ j = 3 by omega) with e | e | e | e
    · subst e
      refine Rt_t (j0.mpr rfl) (Rt_fl (fun v ev => Rt_t (j0.mpr rfl) (Rt_fl (fun τ eτ => ?_))))
      exact s1 v τ (by decide +kernel) (by decide +kernel) (by decide +kernel) ev eτ
    · subst e
      refine Rt_f (fun e => by have := j0.mp e; omega) (Rt_t (j1.mpr rfl) (Rt_fl (fun v ev => Rt_f (fun e => by have := j0.mp e; omega) ?_)))
      show Rt (LB_X12_set_114 (LF_X12_set 7) a1 a2 a3 v σ) _
      unfold LB_X12_set_114
      rw [ep]
      exact Rt_t (j1.mpr rfl) (Rt_fl (fun τ eτ => Rt_f (fun e => by have := j2.mp e; omega) (s2 v τ (by decide +kernel) ev eτ)))
    · subst e
      refine Rt_f (fun e => by have := j0.mp e; omega) (Rt_f (fun e => by have := j1.mp e; omega) (Rt_t (j2.mpr rfl) (Rt_fl (fun v ev => Rt_f (fun e => by have := j0.mp e; omega) ?_))))
      show Rt (LB_X12_set_114 (LF_X12_set 7) a1 a2 a3 v σ) _
      unfold LB_X12_set_114
      rw [ep]
      exact Rt_f (fun e => by have := j1.mp e; omega) (Rt_t (j2.mpr rfl) (Rt_fl (fun τ eτ => s2 v τ (by decide +kernel) ev eτ)))
    · subst e
      refine Rt_f (fun e => by have := j0.mp e; omega) (Rt_f (fun e => by have := j1.mp e; omega) (Rt_f (fun e => by have := j2.mp e; omega) (Rt_fl (fun v ev => Rt_f (fun e => by have := j0.mp e; omega) ?_))))
      show Rt (LB_X12_set_114 (LF_X12_set 7) a1 a2 a3 v σ) _
      unfold LB_X12_set_114
      refine Rt_f (fun e => by have := j1.mp e; omega) (Rt_f (fun e => by have := j2.mp e; omega) ?_)
      show Rt (LB_X12_set_138 (LF_X12_set 6) a1 a2 a3 v σ) _
      unfold LB_X12_set_138
      rw [ep]
      exact Rt_t (j3.mpr rfl) (Rt_fl (fun τ eτ => Rt_p (Or.inl ⟨m, 3, h1, hm, h2, hj, c, ev, eτ⟩)))
  · rw [if_neg (show ¬ ((0 : Int32).toInt ≤ a3.toInt ∧ a3.toInt ≤ z.toInt) from fun q => c ⟨q.1, by have := q.2; omega⟩)]
    refine Rt_t rfl (Rt_p (Or.inr ⟨rfl, Or.inr ⟨⟨by omega, by omega⟩, ?_, rfl⟩⟩))
    rw [show a2.toInt.toNat = j from by omega]; exact c
theorem setM {n : Nat} {a1 a2 a3 : Int32} {σ : Sg} (n6 : n ≤ 6) (hn : (gi σ 74 0).toInt = (n : Int)) : Rt (F_X12_set a1 a2 a3 σ) (SETP 105 n a1 a2 a3 σ) := by
  unfold F_X12_set
  rw [F_mIs hn n6, fb_e]
  by_cases c1 : 0 ≤ a1.toInt ∧ a1.toInt < (n : Int)
  · rw [if_pos c1]
    refine Rt_f (by decide +kernel) ?_
    refine Rt_fe F_in ?_
    by_cases c2 : 0 ≤ a2.toInt ∧ a2.toInt ≤ 3
    · rw [if_pos (show (0 : Int32).toInt ≤ a2.toInt ∧ a2.toInt ≤ (3 : Int32).toInt from c2)]
      refine Rt_f (by decide +kernel) ?_
      obtain ⟨m, hm⟩ : ∃ m : Nat, a1.toInt = (m : Int) := ⟨a1.toInt.toNat, by omega⟩
      obtain ⟨j, hj⟩ : ∃ j : Nat, a2.toInt = (j : Int) := ⟨a2.toInt.toNat, by omega⟩
      by_cases e0 : j = 0
      · subst e0
        exact Rt_t (i_eq (show _ = (0 : Int) by omega)) (st4M hm (by omega) hj (by decide +kernel) rfl)
      refine Rt_f (i_ne (show _ ≠ (0 : Int) by omega)) ?_
      by_cases e1 : j = 1
      · subst e1
        exact Rt_t (i_eq (show _ = (1 : Int) by omega)) (st4M hm (by omega) hj (by decide +kernel) rfl)
      refine Rt_f (i_ne (show _ ≠ (1 : Int) by omega)) ?_
      exact st4M hm (by omega) hj (by omega) (by unfold slm; rw [if_neg e0, if_neg e1]; rfl)
    · rw [if_neg (show ¬ ((0 : Int32).toInt ≤ a2.toInt ∧ a2.toInt ≤ (3 : Int32).toInt) from c2)]
      exact Rt_t rfl (Rt_p (Or.inr ⟨rfl, Or.inl ⟨fun z => c2 z.2, rfl⟩⟩))
  · rw [if_neg c1]
    exact Rt_t rfl (Rt_p (Or.inr ⟨rfl, Or.inl ⟨fun z => c1 z.1, rfl⟩⟩))
theorem st4C {n m j : Nat} {a1 a2 a3 z : Int32} {σ : Sg} (h1 : a1.toInt = (m : Int)) (hm : m < n) (h2 : a2.toInt = (j : Int)) (hj : j < 4) (hz : z.toInt = slm j) : Rt (LF_X11_set 9 a1 a2 a3 z σ) (SETP 4 n a1 a2 a3 σ) := by
  have ex := cl_eq (x := a1) (by omega)
  have ep : a1.toNatClampNeg = m := by omega
  show Rt (LB_X11_set_41 (LF_X11_set 8) a1 a2 a3 z σ) _
  unfold LB_X11_set_41
  have bad : ¬ (0 ≤ a3.toInt ∧ a3.toInt ≤ slm j) → Rt ((-2 : Int32), σ) (SETP 4 n a1 a2 a3 σ) := fun c => Rt_p (Or.inr ⟨rfl, Or.inr ⟨⟨by omega, by omega⟩, by rw [show a2.toInt.toNat = j from by omega]; exact c, rfl⟩⟩)
  by_cases c0 : a3.toInt < 0
  · exact Rt_t (i_lt0 c0) (bad (by omega))
  refine Rt_f (i_nlt0 (by omega)) ?_
  by_cases c1 : a3.toInt ≤ slm j
  · refine Rt_t (i_le (by omega)) ?_
    have nb : F_X1_numbersOf 1 a2 σ = (4 + j, σ) := by
      unfold F_X1_numbersOf
      rcases (show j = 0 ∨ j = 1 ∨ j = 2 ∨ j = 3 by omega) with e | e | e | e
      · subst e; rw [if_pos (by omega)]
      · subst e; rw [if_neg (by omega), if_pos (by omega)]
      · subst e; rw [if_neg (by omega), if_neg (by omega), if_pos (by omega)]
      · subst e; rw [if_neg (by omega), if_neg (by omega), if_neg (by omega)]
    refine Rt_fe nb ?_
    rw [ep]
    exact Rt_fl (fun v ev => Rt_fl (fun τ eτ => Rt_p (Or.inl ⟨m, j, h1, hm, h2, hj, ⟨by omega, c1⟩, ev, eτ⟩)))
  · exact Rt_f (i_nle (by omega)) (bad (by omega))
theorem setC {n : Nat} {a1 a2 a3 : Int32} {σ : Sg} (hn : (gi σ 1 1).toInt = (n : Int)) : Rt (F_X11_set a1 a2 a3 σ) (SETP 4 n a1 a2 a3 σ) := by
  unfold F_X11_set
  rw [F_isMower, fb_e, hn]
  by_cases c1 : 0 ≤ a1.toInt ∧ a1.toInt < (n : Int)
  · rw [if_pos c1]
    refine Rt_f (by decide +kernel) ?_
    have bad : ¬ (0 ≤ a2.toInt ∧ a2.toInt ≤ 3) → Rt ((-1 : Int32), σ) (SETP 4 n a1 a2 a3 σ) := fun c => Rt_p (Or.inr ⟨rfl, Or.inl ⟨fun z => c z.2, rfl⟩⟩)
    by_cases d0 : a2.toInt < 0
    · exact Rt_t (i_lt0 d0) (bad (by omega))
    refine Rt_f (i_nlt0 (by omega)) ?_
    by_cases d3 : a2.toInt ≤ 3
    · refine Rt_t (i_le (show _ ≤ (3 : Int) from d3)) ?_
      obtain ⟨m, hm⟩ : ∃ m : Nat, a1.toInt = (m : Int) := ⟨a1.toInt.toNat, by omega⟩
      obtain ⟨j, hj⟩ : ∃ j : Nat, a2.toInt = (j : Int) := ⟨a2.toInt.toNat, by omega⟩
      by_cases e0 : j = 0
      · subst e0
        exact Rt_t (i_eq (show _ = (0 : Int) by omega)) (st4C hm (by omega) hj (by decide +kernel) rfl)
      refine Rt_f (i_ne (show _ ≠ (0 : Int) by omega)) ?_
      by_cases e1 : j = 1
      · subst e1
        exact Rt_t (i_eq (show _ = (1 : Int) by omega)) (st4C hm (by omega) hj (by decide +kernel) rfl)
      refine Rt_f (i_ne (show _ ≠ (1 : Int) by omega)) ?_
      exact st4C hm (by omega) hj (by omega) (by unfold slm; rw [if_neg e0, if_neg e1]; rfl)
    · exact Rt_f (i_nle (show (3 : Int) < _ by omega)) (bad (by omega))
  · rw [if_neg c1]
    exact Rt_t rfl (Rt_p (Or.inr ⟨rfl, Or.inl ⟨fun z => c1 z.1, rfl⟩⟩))
theorem MN_set {V : Vx} {a1 a2 a3 r1 r2 : Int32} {σ σ1 σ2 : Sg} (q : REL σ) (mn : MN σ) (hI : INV V σ) (h1 : F_X11_set a1 a2 a3 σ = (r1, σ1)) (h2 : F_X12_set a1 a2 a3 σ1 = (r2, σ2)) : MN σ2 ∧ r1 = r2 := by
  have hm := MI_f0 hI.2.1
  have hc := q.1.1
  obtain ⟨n, hn⟩ : ∃ n : Nat, (gi σ 1 1).toInt = (n : Int) := ⟨(gi σ 1 1).toInt.toNat, by omega⟩
  have s1 := Rt_of (setC (a1 := a1) (a2 := a2) (a3 := a3) hn) h1
  rcases s1 with ⟨m, j, e1, e2, e3, e4, e5, e6, e7⟩ | ⟨e, s1⟩
  · have g74 : gi σ1 74 0 = gi σ 74 0 := by rw [e7, gi_si_ne (Or.inl (by omega))]
    have s2 := Rt_of (setM (a1 := a1) (a2 := a2) (a3 := a3) (n := n) (by omega) (by rw [g74]; omega)) h2
    rcases s2 with ⟨m', j', k1, k2, k3, k4, k5, k6, k7⟩ | ⟨-, s2⟩
    · obtain rfl : m' = m := by omega
      obtain rfl : j' = j := by omega
      obtain ⟨⟨b1, b2, b3, b4, b5, b6, b7⟩, bi, E1, E2, m2, m28, m11, m17⟩ := mn
      have gg : ∀ id k, ¬ (id = 4 + j' ∧ k = m') → ¬ (id = 105 + j' ∧ k = m') → gi σ2 id k = gi σ id k := fun id k a b => by rw [k7, gi_si_ne (by omega), e7, gi_si_ne (by omega)]
      have x1 : gi σ2 (4 + j') m' = a3 := by rw [k7, gi_si_ne (Or.inl (by omega)), e7, gi_si_eq]
      have x2 : gi σ2 (105 + j') m' = a3 := by rw [k7, gi_si_eq]
      have br : ∀ (i : Nat), i < 4 → BR σ (105 + i) 6 (slm i) → BR σ2 (105 + i) 6 (slm i) := by
        intro i hi hb k hk
        by_cases e : i = j' ∧ k = m'
        · obtain ⟨rfl, rfl⟩ := e
          rw [x2]; exact e5
        · rw [gg _ k (by omega) (by omega)]; exact hb k hk
      refine ⟨⟨⟨BR_eq (fun k _ => gg 103 k (by omega) (by omega)) b1, BR_eq (fun k _ => gg 104 k (by omega) (by omega)) b2, br 0 (by decide +kernel) b3, br 1 (by decide +kernel) b4, br 2 (by decide +kernel) b5, br 3 (by decide +kernel) b6, BR_eq (fun k _ => gg 109 k (by omega) (by omega)) b7⟩, BIM_eq (fun id k a b c => gg id k (by omega) (by omega)) bi, ?_, EQN_eq (by rw [gg 17 1 (by omega) (by omega)]) (fun id k a => gg id k (by omega) (by omega)) E2, by rw [gg 74 2 (by omega) (by omega), gg 74 0 (by omega) (by omega)]; exact m2, by rw [gg 74 28 (by omega) (by omega)]; exact m28, by rw [gg 1 11 (by omega) (by omega)]; exact m11, by rw [gg 17 11 (by omega) (by omega)]; exact m17⟩, ?_⟩
      · intro k hk
        rw [gg 1 1 (by omega) (by omega)]
        refine ⟨fun h => ?_, fun h => ?_⟩
        · have E := (E1 k hk).1 h
          have one : ∀ i, i < 4 → gi σ (4 + i) k = gi σ (105 + i) k → gi σ2 (4 + i) k = gi σ2 (105 + i) k := by
            intro i hi h9
            by_cases e : i = j' ∧ k = m'
            · obtain ⟨rfl, rfl⟩ := e; rw [x1, x2]
            · rw [gg _ k (by omega) (by omega), gg _ k (by omega) (by omega)]; exact h9
          exact ⟨one 0 (by decide +kernel) E.1, one 1 (by decide +kernel) E.2.1, one 2 (by decide +kernel) E.2.2.1, one 3 (by decide +kernel) E.2.2.2⟩
        · have E := (E1 k hk).2 h
          rw [gg (1 + 3) k (by omega) (by omega), gg (1 + 5) k (by omega) (by omega), gg (1 + 6) k (by omega) (by omega)]
          exact E
      · rw [e6, k6, e7, gi_si_ne (Or.inl (by omega))]
        have E := (E1 m' (by omega)).1 (by omega)
        rcases (show j' = 0 ∨ j' = 1 ∨ j' = 2 ∨ j' = 3 by omega) with rfl | rfl | rfl | rfl
        · exact E.1
        · exact E.2.1
        · exact E.2.2.1
        · exact E.2.2.2
    · exfalso
      rcases s2 with ⟨a, -⟩ | ⟨-, a, -⟩
      · exact a ⟨by omega, by omega⟩
      · exact a (by rw [show a2.toInt.toNat = j from by omega]; exact e5)
  · subst e
    have s2 := Rt_of (setM (a1 := a1) (a2 := a2) (a3 := a3) (n := n) (by omega) (by omega)) h2
    rcases s2 with ⟨m', j', k1, k2, k3, k4, k5, k6, k7⟩ | ⟨e, s2⟩
    · exfalso
      rcases s1 with ⟨a, -⟩ | ⟨-, a, -⟩
      · exact a ⟨by omega, by omega⟩
      · exact a (by rw [show a2.toInt.toNat = j' from by omega]; exact k5)
    · subst e
      refine ⟨mn, ?_⟩
      rcases s1 with ⟨a, b⟩ | ⟨a, a', b⟩ <;> rcases s2 with ⟨c, d⟩ | ⟨c, c', d⟩
      · rw [b, d]
      · exact absurd c a
      · exact absurd a c
      · rw [b, d]
/-! the minutes' numbers: row, mower, image, undo -/
theorem row_br {a1 a2 a3 : Int32} {σ : Sg} : Rt (F_X12_row a1 a2 a3 σ) (fun _ σ' => BR σ 109 24 9 → BR σ' 109 24 9) := by
  unfold F_X12_row
  have same : ∀ r : Int32, Rt (r, σ) (fun _ σ' => BR σ 109 24 9 → BR σ' 109 24 9) := fun r => Rt_p (fun h => h)
  have eI : ∃ v, F_X12_isMower a1 σ = (v, σ) := by
    unfold F_X12_isMower
    rw [F_in, fb_e]
    exact ⟨_, rfl⟩
  obtain ⟨v, ev⟩ := eI
  refine Rt_fe ev ?_
  by_cases c1 : v = 0
  · exact Rt_t c1 (same _)
  refine Rt_f c1 ?_
  refine Rt_fe F_in ?_
  by_cases c2 : (0 : Int32).toInt ≤ a2.toInt ∧ a2.toInt ≤ (3 : Int32).toInt
  · rw [if_pos c2]
    refine Rt_f (by decide +kernel) ?_
    refine Rt_fe F_in ?_
    by_cases c3 : (0 : Int32).toInt ≤ a3.toInt ∧ a3.toInt ≤ (9 : Int32).toInt
    · rw [if_pos c3]
      refine Rt_f (by decide +kernel) ?_
      by_cases c4 : (gi σ 103 a1.toNatClampNeg) = (6 : Int32)
      · refine Rt_t c4 (Rt_fl (fun v13 _ => Rt_fl (fun τ eτ => Rt_p (fun h k hk => ?_))))
        rw [eτ, gi_si]
        by_cases e : (109 : Nat) = 109 ∧ k = (((4 : Int32) * a1) + a2).toNatClampNeg
        · rw [if_pos e]; exact c3
        · rw [if_neg e]; exact h k hk
      · exact Rt_f c4 (same _)
    · rw [if_neg c3]
      exact Rt_t rfl (same _)
  · rw [if_neg c2]
    exact Rt_t rfl (same _)
theorem MN_row {a1 a2 a3 r1 r2 : Int32} {S : Nat → Prop} {F : Nat → Nat → Prop} {σ σ1 σ2 : Sg} (mn : MN σ) (f : FX S F σ σ1) (hf : ∀ id k, Rmn id k → ¬ S id ∧ ¬ F id k) (g : Fr [109] [] σ1 σ2) (h2 : F_X12_row a1 a2 a3 σ1 = (r2, σ2)) : MN σ2 := by
  have m1 := MN_x f hf mn
  obtain ⟨⟨b1, b2, b3, b4, b5, b6, b7⟩, bi, E1, E2, m2, m28, m11, m17⟩ := m1
  have gg : ∀ id k, id ≠ 109 → gi σ2 id k = gi σ1 id k := fun id k a => congrFun (g.1 id (fun z => a (List.mem_singleton.mp z))).1 k
  exact ⟨⟨BR_eq (fun k _ => gg 103 k (by decide +kernel)) b1, BR_eq (fun k _ => gg 104 k (by decide +kernel)) b2, BR_eq (fun k _ => gg 105 k (by decide +kernel)) b3, BR_eq (fun k _ => gg 106 k (by decide +kernel)) b4, BR_eq (fun k _ => gg 107 k (by decide +kernel)) b5, BR_eq (fun k _ => gg 108 k (by decide +kernel)) b6, Rt_of row_br h2 b7⟩, BIM_eq (fun id k a b c => gg id k (by omega)) bi, EQN_eq (by rw [gg 1 1 (by decide +kernel)]) (fun id k a => gg id k (by omega)) E1, EQN_eq (by rw [gg 17 1 (by decide +kernel)]) (fun id k a => gg id k (by omega)) E2, by rw [gg 74 2 (by decide +kernel), gg 74 0 (by decide +kernel)]; exact m2, by rw [gg 74 28 (by decide +kernel)]; exact m28, by rw [gg 1 11 (by decide +kernel)]; exact m11, by rw [gg 17 11 (by decide +kernel)]; exact m17⟩
theorem mow2L : ∀ (k N : Nat) (x : Int32) (σ : Sg), x.toInt + (k : Int) = 4 → 0 ≤ x.toInt → k < N → Rt (LF_X12_mower N x σ) (fun _ σ' => gi σ' 74 2 = gi σ' 74 0) := by
  intro k
  induction k with
  | zero =>
    intro N x σ hx h0 hN
    obtain ⟨N, rfl⟩ : ∃ i, N = i + 1 := ⟨N - 1, by omega⟩
    show Rt (LB_X12_mower_115 (LF_X12_mower N) x σ) _
    unfold LB_X12_mower_115
    refine Rt_t (i_le (show (4 : Int) ≤ _ by omega)) (Rt_fl (fun σ2 e2 => Rt_fl (fun σ3 e3 => Rt_p ?_)))
    rw [e3, gi_si_eq, gi_si_ne (Or.inr (by decide +kernel))]
  | succ k ih =>
    intro N x σ hx h0 hN
    obtain ⟨N, rfl⟩ : ∃ i, N = i + 1 := ⟨N - 1, by omega⟩
    show Rt (LB_X12_mower_115 (LF_X12_mower N) x σ) _
    unfold LB_X12_mower_115
    refine Rt_f (i_nle (show _ < (4 : Int) by omega)) (Rt_fl (fun σ2 e2 => Rt_fl (fun v ev => ?_)))
    exact ih N v σ2 (by rw [ev, i_inc (by omega)]; omega) (by rw [ev, i_inc (by omega)]; omega) (by omega)
theorem mow2 {a1 a2 : Int32} {σ : Sg} (h : gi σ 74 2 = gi σ 74 0) : Rt (F_X12_mower a1 a2 σ) (fun _ σ' => gi σ' 74 2 = gi σ' 74 0) := by
  unfold F_X12_mower
  refine Rt_fe F_in ?_
  by_cases c1 : (0 : Int32).toInt ≤ a1.toInt ∧ a1.toInt ≤ (6 : Int32).toInt
  · rw [if_pos c1]
    refine Rt_f (by decide +kernel) ?_
    refine Rt_fe F_in ?_
    by_cases c2 : (0 : Int32).toInt ≤ a2.toInt ∧ a2.toInt ≤ (9 : Int32).toInt
    · rw [if_pos c2]
      refine Rt_f (by decide +kernel) ?_
      by_cases c3 : (gi σ 74 0) = (6 : Int32)
      · exact Rt_t c3 (Rt_p h)
      · refine Rt_f c3 (Rt_fl (fun _ _ => Rt_fl (fun _ _ => Rt_fl (fun _ _ => Rt_fl (fun _ _ => Rt_fl (fun _ _ => Rt_fl (fun _ _ => Rt_fl (fun τ _ => ?_))))))))
        exact mow2L 4 20 (0 : Int32) τ rfl (by decide +kernel) (by decide +kernel)
    · rw [if_neg c2]
      exact Rt_t rfl (Rt_p h)
  · rw [if_neg c1]
    exact Rt_t rfl (Rt_p h)
theorem br_put {σ σ' : Sg} {a n : Nat} {hi : Int} {v : Int32} (e : ∀ k, gi σ' a k = if k = n then v else gi σ a k) (hv : 0 ≤ v.toInt ∧ v.toInt ≤ hi) (h : BR σ a 6 hi) : BR σ' a 6 hi := fun k hk => by
  rw [e k]
  by_cases c : k = n
  · rw [if_pos c]; exact hv
  · rw [if_neg c]; exact h k hk
theorem MN_mower {V : Vx} {a1 a2 r1 r2 : Int32} {σ σ1 σ2 : Sg} (q : REL σ) (mn : MN σ) (hI : INV V σ) (f : FX (fun id => id = 2 ∨ id = 3 ∨ id = 5 ∨ 2000 ≤ id) (fun id k => id = 1 ∧ (k = 1 ∨ k = 3)) σ σ1) (w : MWA r1 a1 a2 (gi σ 1 1).toInt (gi σ1 1 1).toInt) (nw : NEWM V a1 a2 σ σ1) (g : Fr [74, 103, 104, 105, 106, 107, 108, 109, 110] [0, 2] σ1 σ2) (h2 : F_X12_mower a1 a2 σ1 = (r2, σ2)) : MN σ2 := by
  have hm := MI_f0 hI.2.1
  have hc := q.1.1
  obtain ⟨n0, hn0⟩ : ∃ n, n = (gi σ 1 1).toNatClampNeg := ⟨_, rfl⟩
  have en := cl_eq (x := gi σ 1 1) (by omega)
  have ex : gi σ 1 1 = nI n0 := by rw [hn0]; exact nI_ofI (by omega)
  have em : gi σ 74 0 = nI n0 := by rw [← ex]; exact i_eq hc.symm
  have fi : ∀ id k, ¬ (id = 2 ∨ id = 3 ∨ id = 5 ∨ 2000 ≤ id) → id ≠ 1 → gi σ1 id k = gi σ id k := fun id k h9 h8 => f.1 id k h9 (fun z => h8 z.1)
  have e74 : ∀ k, gi σ1 74 k = gi σ 74 k := fun k => fi 74 k (by omega) (by omega)
  obtain ⟨⟨b1, b2, b3, b4, b5, b6, b7⟩, bi, E1, E2, m2, m28, m11, m17⟩ := mn
  have k2 := Rt_of (mow2 (a1 := a1) (a2 := a2) (by rw [e74, e74]; exact m2)) h2
  unfold MWA at w
  rcases N_mmower (by rw [e74]; exact em) (by omega) h2 with ⟨bad, rfl⟩ | ⟨ok1, ok2, ok3, m103, m104, m105, m106, m107, m108, m110, m109, mo⟩
  · rcases nw with rfl | ⟨μ, n1, n2, n3, n4, n5, n6, n7, -⟩
    · exact ⟨⟨b1, b2, b3, b4, b5, b6, b7⟩, bi, E1, E2, m2, m28, m11, m17⟩
    · exfalso; omega
  rcases nw with rfl | ⟨μ, n1, n2, n3, n4, n5, n6, n7, n8, n9, n10, n11⟩
  · exfalso; omega
  have gx : ∀ id k, ¬ (74 ≤ id ∧ id ≤ 110) → gi σ2 id k = gi σ1 id k := fun id k h9 => mo id k (by omega) (by omega)
  have z0 : (0 : Int32).toInt = 0 := rfl
  have z10 : (10 : Int32).toInt = 10 := rfl
  refine ⟨⟨br_put m103 ⟨ok1.1, ok1.2⟩ (BR_eq (fun k _ => fi 103 k (by omega) (by omega)) b1), br_put m104 ⟨ok2.1, ok2.2⟩ (BR_eq (fun k _ => fi 104 k (by omega) (by omega)) b2), br_put m105 (by decide +kernel) (BR_eq (fun k _ => fi 105 k (by omega) (by omega)) b3), br_put m106 (by decide +kernel) (BR_eq (fun k _ => fi 106 k (by omega) (by omega)) b4), br_put m107 (by decide +kernel) (BR_eq (fun k _ => fi 107 k (by omega) (by omega)) b5), br_put m108 (by decide +kernel) (BR_eq (fun k _ => fi 108 k (by omega) (by omega)) b6), fun k hk => ?_⟩, BIM_eq (fun id k a b c => by rw [gx id k (by omega), fi id k (by omega) (by omega)]) bi, ?_, EQN_eq (by rw [gx 17 1 (by omega), fi 17 1 (by omega) (by omega)]) (fun id k a => by rw [gx id k (by omega), fi id k (by omega) (by omega)]) E2, k2, ?_, ?_, by rw [gx 17 11 (by omega), fi 17 11 (by omega) (by omega)]; exact m17⟩
  · rw [m109]
    by_cases e : 4 * n0 ≤ k ∧ k < 4 * n0 + 4
    · rw [if_pos e]; exact ⟨Int.le_refl _, by decide +kernel⟩
    · rw [if_neg e, fi 109 k (by omega) (by omega)]; exact b7 k hk
  · intro m hm6
    have e11 : (gi σ2 1 1).toInt = (n0 : Int) + 1 := by rw [gx 1 1 (by omega), n7]; omega
    rw [e11, gx (1 + 3) m (by omega), gx (1 + 4) m (by omega), gx (1 + 5) m (by omega), gx (1 + 6) m (by omega), m105, m106, m107, m108, show gi σ1 (1 + 4) m = if m = (gi σ 1 1).toNatClampNeg then (10 : Int32) else gi σ 5 m from n10 m, ← hn0, fi (1 + 3) m (by omega) (by omega), fi (1 + 5) m (by omega) (by omega), fi (1 + 6) m (by omega) (by omega), fi 105 m (by omega) (by omega), fi 106 m (by omega) (by omega), fi 107 m (by omega) (by omega), fi 108 m (by omega) (by omega)]
    refine ⟨fun h => ?_, fun h => (E1 m hm6).2 (by omega)⟩
    by_cases e : m = n0
    · rw [if_pos e, if_pos e, if_pos e, if_pos e, if_pos e]
      have z := (E1 m hm6).2 (by omega)
      exact ⟨z.1, rfl, z.2.1, z.2.2⟩
    · rw [if_neg e, if_neg e, if_neg e, if_neg e, if_neg e]
      exact (E1 m hm6).1 (by omega)
  · rw [g.2.1 28 (by decide +kernel), e74]; exact m28
  · rw [gx 1 11 (by omega), f.1 1 11 (fun z => by (try dsimp only at z); omega) (fun z => by (try dsimp only at z); omega)]; exact m11
theorem MN_image {r2 : Int32} {σ σ1 σ2 : Sg} (h6 : (gi σ 1 1).toInt ≤ 6) (mn : MN σ) (f : FX (fun id => id = 18 ∨ id = 19 ∨ id = 20 ∨ id = 21 ∨ id = 22 ∨ id = 23 ∨ id = 24 ∨ id = 26 ∨ id = 28 ∨ id = 30) (fun id k => (id = 0 ∧ k = 3) ∨ (id = 17 ∧ k = 1) ∨ (id = 17 ∧ k = 3) ∨ (id = 17 ∧ k = 9) ∨ (id = 17 ∧ k = 10) ∨ (id = 17 ∧ k = 11) ∨ (id = 25 ∧ k = 1) ∨ (id = 27 ∧ k = 1) ∨ (id = 29 ∧ k = 1)) σ σ1) (y : CPY σ σ1 17 1) (g : Fr [74, 156, 157, 158, 159, 160, 161, 162, 163, 164, 165, 166, 167, 168] [49, 50, 51, 52, 53, 54, 55] σ1 σ2) (h2 : F_X12_image σ1 = (r2, σ2)) : MN σ2 := by
  obtain ⟨⟨b1, b2, b3, b4, b5, b6, b7⟩, bi, E1, E2, m2, m28, m11, m17⟩ := mn
  obtain ⟨⟨y1, -, -, y11, -⟩, ⟨y6, y7⟩, y8⟩ := y
  obtain ⟨k1, k2, -, -, mo⟩ := N_mimage h2
  have fi : ∀ id k, ¬ ((18 ≤ id ∧ id ≤ 30) ∨ id = 0 ∨ id = 17) → gi σ1 id k = gi σ id k := fun id k h9 => f.1 id k (by intro z; (try dsimp only at z); omega) (by intro z; (try dsimp only at z); omega)
  have gx : ∀ id k, ¬ (156 ≤ id ∧ id ≤ 168) → id ≠ 74 → gi σ2 id k = gi σ1 id k := fun id k h9 h8 => mo id k (by omega)
  have g0 : ∀ id k, ¬ ((18 ≤ id ∧ id ≤ 30) ∨ id = 0 ∨ id = 17) → ¬ (156 ≤ id ∧ id ≤ 168) → id ≠ 74 → gi σ2 id k = gi σ id k := fun id k a b c => by rw [gx id k b c, fi id k a]
  have g74 : ∀ k, k < 49 → gi σ2 74 k = gi σ 74 k := fun k hk => by rw [g.2.1 k (by intro z; simp at z; omega), fi 74 k (by omega)]
  refine ⟨⟨BR_eq (fun k _ => g0 103 k (by omega) (by omega) (by omega)) b1, BR_eq (fun k _ => g0 104 k (by omega) (by omega) (by omega)) b2, BR_eq (fun k _ => g0 105 k (by omega) (by omega) (by omega)) b3, BR_eq (fun k _ => g0 106 k (by omega) (by omega) (by omega)) b4, BR_eq (fun k _ => g0 107 k (by omega) (by omega) (by omega)) b5, BR_eq (fun k _ => g0 108 k (by omega) (by omega) (by omega)) b6, BR_eq (fun k _ => g0 109 k (by omega) (by omega) (by omega)) b7⟩, ⟨fun k hk => ?_, fun k hk => ?_, fun k hk => ?_, fun k hk => ?_, fun k hk => ?_, fun k hk => ?_, fun k hk => ?_⟩, EQN_eq (by rw [g0 1 1 (by omega) (by omega) (by omega)]) (fun id k a => g0 id k (by omega) (by omega) (by omega)) E1, ?_, by rw [g74 2 (by decide +kernel), g74 0 (by decide +kernel)]; exact m2, by rw [g74 28 (by decide +kernel)]; exact m28, by rw [g0 1 11 (by omega) (by omega) (by omega)]; exact m11, by rw [gx 17 11 (by omega) (by omega), y11]; exact m11⟩
  · rw [(k1 k hk).1, fi 103 k (by omega)]; exact b1 k hk
  · rw [(k1 k hk).2.1, fi 104 k (by omega)]; exact b2 k hk
  · rw [(k1 k hk).2.2.1, fi 105 k (by omega)]; exact b3 k hk
  · rw [(k1 k hk).2.2.2.1, fi 106 k (by omega)]; exact b4 k hk
  · rw [(k1 k hk).2.2.2.2.1, fi 107 k (by omega)]; exact b5 k hk
  · rw [(k1 k hk).2.2.2.2.2.1, fi 108 k (by omega)]; exact b6 k hk
  · rw [k2 k hk, fi 109 k (by omega)]; exact b7 k hk
  · intro m hm
    obtain ⟨-, -, m158, m159, m160, m161, -⟩ := k1 m hm
    rw [gx 17 1 (by omega) (by omega), y1, gx (17 + 3) m (by omega) (by omega), gx (17 + 4) m (by omega) (by omega), gx (17 + 5) m (by omega) (by omega), gx (17 + 6) m (by omega) (by omega), show gi σ1 (17 + 3) m = gi σ 4 m from y7 3 (by decide +kernel) (by decide +kernel) m hm, show gi σ1 (17 + 4) m = gi σ 5 m from y7 4 (by decide +kernel) (by decide +kernel) m hm, show gi σ1 (17 + 5) m = gi σ 6 m from y7 5 (by decide +kernel) (by decide +kernel) m hm, show gi σ1 (17 + 6) m = gi σ 7 m from y7 6 (by decide +kernel) (by decide +kernel) m hm, m158, show gi σ2 (158 + 1) m = gi σ1 106 m from m159, show gi σ2 (158 + 2) m = gi σ1 107 m from m160, show gi σ2 (158 + 3) m = gi σ1 108 m from m161, fi 105 m (by omega), fi 106 m (by omega), fi 107 m (by omega), fi 108 m (by omega)]
    exact E1 m hm
theorem mundo2 {σ σ' : Sg} {r : Int32} (hf : F_X12_undo σ = (r, σ')) (hz : ¬ gi σ 74 49 = 0) : gi σ' 74 2 = gi σ' 74 0 ∧ gi σ' 74 28 = gi σ 74 28 := by
  unfold F_X12_undo at hf
  rw [if_neg hz] at hf
  simp only [fl_e] at hf
  have e : σ' = (r, σ').2 := rfl
  refine ⟨?_, ?_⟩
  · rw [e, ← hf, mundo74, mundo74]
    repeat first | rw [gi_si_eq] | rw [gi_si_ne (Or.inr (by decide +kernel))]
  · rw [e, ← hf, mundo74]
    repeat rw [gi_si_ne (Or.inr (by decide +kernel))]
theorem MN_undo {r2 : Int32} {σ σ1 σ2 : Sg} (h6 : (gi σ 17 1).toInt ≤ 6) (ht : (gi σ 0 3).toInt = (gi σ 74 49).toInt) (mn : MN σ) (f : FX (fun id => id = 10 ∨ id = 12 ∨ id = 14 ∨ id = 2 ∨ id = 3 ∨ id = 4 ∨ id = 5 ∨ id = 6 ∨ id = 7 ∨ id = 8) (fun id k => (id = 1 ∧ k = 1) ∨ (id = 1 ∧ k = 3) ∨ (id = 1 ∧ k = 9) ∨ (id = 1 ∧ k = 10) ∨ (id = 1 ∧ k = 11) ∨ (id = 11 ∧ k = 1) ∨ (id = 13 ∧ k = 1) ∨ (id = 9 ∧ k = 1)) σ σ1) (y0 : (gi σ 0 3).toInt ≠ 0 → CPY σ σ1 1 17) (y9 : (gi σ 0 3).toInt = 0 → σ1 = σ) (h2 : F_X12_undo σ1 = (r2, σ2)) : MN σ2 := by
  by_cases z : (gi σ 0 3).toInt = 0
  · have e := y9 z
    subst e
    have e49 : gi σ1 74 49 = 0 := i_eq (b := (0 : Int32)) (by show (gi σ1 74 49).toInt = 0; omega)
    unfold F_X12_undo at h2
    rw [if_pos e49] at h2
    rw [← (Prod.mk.inj h2).2]
    exact mn
  obtain ⟨b, ⟨i1, i2, i3, i4, i5, i6, i7⟩, E1, E2, m2, m28, m11, m17⟩ := mn
  obtain ⟨⟨y1, -, -, y11, -⟩, ⟨y6, y7⟩, y8⟩ := y0 z
  have fi : ∀ id k, ¬ (1 ≤ id ∧ id ≤ 14) → gi σ1 id k = gi σ id k := fun id k h9 => f.1 id k (by intro z; (try dsimp only at z); omega) (by intro z; (try dsimp only at z); omega)
  have hz : ¬ gi σ1 74 49 = 0 := fun e => by
    rw [fi 74 49 (by omega)] at e
    have e2 : (gi σ 74 49).toInt = 0 := congrArg Int32.toInt e
    omega
  obtain ⟨k1, k2, -, -, mo⟩ := N_mundo h2 hz
  obtain ⟨u2, u28⟩ := mundo2 h2 hz
  have gx : ∀ id k, ¬ (74 ≤ id ∧ id ≤ 148) → gi σ2 id k = gi σ1 id k := fun id k h9 => mo id k (by omega)
  have g0 : ∀ id k, ¬ (74 ≤ id ∧ id ≤ 148) → ¬ (1 ≤ id ∧ id ≤ 14) → gi σ2 id k = gi σ id k := fun id k a c => by rw [gx id k a, fi id k c]
  refine ⟨⟨fun k hk => ?_, fun k hk => ?_, fun k hk => ?_, fun k hk => ?_, fun k hk => ?_, fun k hk => ?_, fun k hk => ?_⟩, ⟨BR_eq (fun k _ => g0 156 k (by omega) (by omega)) i1, BR_eq (fun k _ => g0 157 k (by omega) (by omega)) i2, BR_eq (fun k _ => g0 158 k (by omega) (by omega)) i3, BR_eq (fun k _ => g0 159 k (by omega) (by omega)) i4, BR_eq (fun k _ => g0 160 k (by omega) (by omega)) i5, BR_eq (fun k _ => g0 161 k (by omega) (by omega)) i6, BR_eq (fun k _ => g0 163 k (by omega) (by omega)) i7⟩, ?_, EQN_eq (by rw [g0 17 1 (by omega) (by omega)]) (fun id k a => g0 id k (by omega) (by omega)) E2, u2, by rw [u28, fi 74 28 (by omega)]; exact m28, by rw [gx 1 11 (by omega), y11]; exact m17, by rw [g0 17 11 (by omega) (by omega)]; exact m17⟩
  · rw [(k1 k hk).1, fi 156 k (by omega)]; exact i1 k hk
  · rw [(k1 k hk).2.1, fi 157 k (by omega)]; exact i2 k hk
  · rw [(k1 k hk).2.2.1, fi 158 k (by omega)]; exact i3 k hk
  · rw [(k1 k hk).2.2.2.1, fi 159 k (by omega)]; exact i4 k hk
  · rw [(k1 k hk).2.2.2.2.1, fi 160 k (by omega)]; exact i5 k hk
  · rw [(k1 k hk).2.2.2.2.2.1, fi 161 k (by omega)]; exact i6 k hk
  · rw [k2 k hk, fi 163 k (by omega)]; exact i7 k hk
  · intro m hm
    obtain ⟨-, -, m158, m159, m160, m161, -⟩ := k1 m hm
    rw [gx 1 1 (by omega), y1, gx (1 + 3) m (by omega), gx (1 + 4) m (by omega), gx (1 + 5) m (by omega), gx (1 + 6) m (by omega), show gi σ1 (1 + 3) m = gi σ 20 m from y7 3 (by decide +kernel) (by decide +kernel) m hm, show gi σ1 (1 + 4) m = gi σ 21 m from y7 4 (by decide +kernel) (by decide +kernel) m hm, show gi σ1 (1 + 5) m = gi σ 22 m from y7 5 (by decide +kernel) (by decide +kernel) m hm, show gi σ1 (1 + 6) m = gi σ 23 m from y7 6 (by decide +kernel) (by decide +kernel) m hm, m158, show gi σ2 (105 + 1) m = gi σ1 159 m from m159, show gi σ2 (105 + 2) m = gi σ1 160 m from m160, show gi σ2 (105 + 3) m = gi σ1 161 m from m161, fi 158 m (by omega), fi 159 m (by omega), fi 160 m (by omega), fi 161 m (by omega)]
    exact E2 m hm
/-! who and order leave the minutes' numbers as they were -/
theorem isnZ {n m : Nat} {K : Int} {S : Stc} {D : Dyn} {σ : Sg} {x y : Int32} (h : HMo n K S D σ) (hx : x.toInt = (m : Int)) (hm : m < n) (ht : 0 ≤ (gi σ 143 y.toNatClampNeg).toInt ∧ (gi σ 143 y.toNatClampNeg).toInt ≤ 30) : Rt (F_X12_isSeen x y σ) (fun _ σ' => FXz σ σ') := by
  obtain ⟨sb, db, hK, hrr, h99, hs, hd⟩ := id h
  have n6 := sb.1
  have ex := cl_eq (x := x) (by omega)
  unfold F_X12_isSeen
  rw [show x.toNatClampNeg = m from by omega]
  refine Rt_fs (savM n6 hs hd) (fun σ1 ⟨k1, s1, d1, _, z1⟩ => ?_)
  refine Rt_fl (fun σ4 e4 => ?_)
  have k4 : KP σ σ4 := by rw [e4]; exact KP_si (by omega) k1
  have s4 : MS n S σ4 := by rw [e4]; exact MS_si (by omega) s1
  have d4 : MDy n (aStp m 3 D) σ4 := by rw [e4]; exact stpM db hm rfl (by decide +kernel) d1
  have db4 := aStp_b (r := 3) db (h99 m hm) hm (by decide +kernel)
  obtain ⟨j, hj⟩ : ∃ j : Nat, (gi σ4 143 y.toNatClampNeg).toInt = (j : Int) := by
    rw [e4, gi_si_ne (Or.inl (by decide +kernel)), FXz_i z1 (by omega)]
    exact ⟨(gi σ 143 y.toNatClampNeg).toInt.toNat, by omega⟩
  have hj30 : (j : Int) ≤ 30 := by
    rw [← hj, e4, gi_si_ne (Or.inl (by decide +kernel)), FXz_i z1 (by omega)]; exact ht.2
  refine Rt_fs (gosM9 sb hj (by omega) (by omega) db4 s4.2 d4) (fun σ6 ⟨_, f6, _⟩ => ?_)
  have k6 := KP_q n6 k4 f6
  by_cases c : (gi σ6 105 (gi σ6 142 y.toNatClampNeg).toNatClampNeg) = (gi σ6 144 y.toNatClampNeg)
  · exact Rt_t c (Rt_fs (putM k6) (fun σ7 z => Rt_p z))
  · exact Rt_f c (Rt_fs (putM k6) (fun σ7 z => Rt_p z))
theorem whoLZ {n : Nat} {K : Int} {S : Stc} {D : Dyn} {s : Nat} (hs6 : s ≤ 6) : ∀ (N b : Nat) (x1 x2 x3 x4 : Int32) (σ : Sg), HMo n K S D σ → (gi σ 74 41).toInt = (s : Int) → (∀ k, k < 6 → 0 ≤ (gi σ 143 k).toInt ∧ (gi σ 143 k).toInt ≤ 30) → 0 ≤ x2.toInt → (b ≠ 0 → x2.toInt < (n : Int)) → (b = 0 → x2.toInt ≤ (n : Int)) → 0 ≤ x4.toInt →
    Rt (LF_X12_who N b x1 x2 x3 x4 σ) (fun _ σ' => FXz σ σ') := by
  intro N
  induction N with
  | zero => intro b x1 x2 x3 x4 σ _ _ _ _ _ _ _; exact FXz_rf
  | succ N ih =>
    intro b x1 x2 x3 x4 σ h h41 ht h2 h3 h3' h4
    have hn := h.2.2.2.2.2.1.1
    have n6 := h.1.1
    have z0 : (0 : Int32).toInt = 0 := rfl
    rcases b with _ | _ | _ | b
    · show Rt (LB_X12_who_4 (LF_X12_who N) x1 x2 σ) _
      unfold LB_X12_who_4
      by_cases c : (gi σ 74 0) ≤ x2
      · exact Rt_t c (Rt_p FXz_rf)
      · have c' : ¬ (gi σ 74 0).toInt ≤ x2.toInt := fun z => c (i_le z)
        exact Rt_f c (ih 1 x1 x2 (1 : Int32) (0 : Int32) σ h h41 ht h2 (fun _ => by omega) (fun z => absurd z (by decide +kernel)) (by omega))
    · have h3 := h3 (by decide +kernel)
      show Rt (LB_X12_who_17 (LF_X12_who N) x1 x2 x3 x4 σ) _
      unfold LB_X12_who_17
      by_cases c : (gi σ 74 41) ≤ x4
      · exact Rt_t c (ih 2 x1 x2 x3 0 σ h h41 ht h2 (fun _ => h3) (fun z => absurd z (by decide +kernel)) (by omega))
      · have c' : ¬ (gi σ 74 41).toInt ≤ x4.toInt := fun z => c (i_le z)
        have ex := cl_eq (x := x4) (by omega)
        refine Rt_f c ?_
        by_cases d : x3 = 0
        · exact Rt_t d (ih 2 x1 x2 x3 0 σ h h41 ht h2 (fun _ => h3) (fun z => absurd z (by decide +kernel)) (by omega))
        · refine Rt_f d ?_
          refine Rt_fb (isnZ (m := x2.toInt.toNat) h (by omega) (by omega) (ht x4.toNatClampNeg (by omega))) (fun r4 σ3 z => ?_)
          refine Rt_fl (fun v5 e5 => ?_)
          exact Rt_w (ih 1 x1 x2 r4 v5 σ3 (HMo_z z h) (by rw [FXz_i z (by omega)]; exact h41) (fun k hk => by rw [FXz_i z (by omega)]; exact ht k hk) h2 (fun _ => h3) (fun z => absurd z (by decide +kernel)) (by rw [e5, i_inc (by omega)]; omega)) (fun _ σ' q => FXz_tr z q)
    · have h3 := h3 (by decide +kernel)
      show Rt (LB_X12_who_44 (LF_X12_who N) x1 x2 x3 σ) _
      unfold LB_X12_who_44
      by_cases d : x3 = 0
      · exact Rt_t d (Rt_fl (fun v2 _ => Rt_fl (fun v3 e3 => ih 0 v2 v3 0 0 σ h h41 ht (by rw [e3, i_inc (by omega)]; omega) (fun z => absurd rfl z) (fun _ => by rw [e3, i_inc (by omega)]; omega) (by omega))))
      · exact Rt_f d (Rt_fl (fun v2 _ => Rt_fl (fun v3 e3 => ih 0 v2 v3 0 0 σ h h41 ht (by rw [e3, i_inc (by omega)]; omega) (fun z => absurd rfl z) (fun _ => by rw [e3, i_inc (by omega)]; omega) (by omega))))
    · exact FXz_rf
theorem whoZ {n : Nat} {K : Int} {S : Stc} {D : Dyn} {σ : Sg} (h : HMo n K S D σ) (h41 : 0 ≤ (gi σ 74 41).toInt ∧ (gi σ 74 41).toInt ≤ 6) (ht : ∀ k, k < 6 → 0 ≤ (gi σ 143 k).toInt ∧ (gi σ 143 k).toInt ≤ 30) : Rt (F_X12_who σ) (fun _ σ' => FXz σ σ') := by
  unfold F_X12_who
  have z0 : (0 : Int32).toInt = 0 := rfl
  exact whoLZ (s := (gi σ 74 41).toInt.toNat) (by omega) 2000 0 (0 : Int32) (0 : Int32) 0 0 σ h (by omega) ht (by omega) (fun z => absurd rfl z) (fun _ => by omega) (by omega)
/-! order -/
noncomputable def RWS (σ0 σ : Sg) : Prop := ∀ id k, 105 ≤ id → id ≤ 108 → k < 6 → gi σ id k = gi σ0 id k
/-! of, told, judge: the same answers -/
noncomputable def r_of (S : Stc) (D : Dyn) (m p : Nat) (a : Int) : Int :=
  if a = 0 then S_kn S m else if a = 1 then S_vv S m else if a = 2 then D_at D m else if a = 3 then D_ed D m else if a = 4 then D_ti D m else if a = 5 then D_st D m else if a = 6 then (p : Int) else if a = 7 then aPc S D p else if a = 8 then aSt S D p else -1
theorem ofC {n m p : Nat} {K : Int} {S : Stc} {D : Dyn} {σ : Sg} {a1 a2 : Int32} (sb : SBd n S) (db : DBd n K D) (hr : S_r S = n) (cs : CS 1 n S σ) (cd : CDy 1 n D σ) (h1 : a1.toInt = (m : Int)) (hm : m < n) (hp : p < n) (hl : S_ln S p = m) (hj : ∀ j, j < p → S_ln S j ≠ m) : Rt (F_X11_of a1 a2 σ) (fun r _ => r.toInt = r_of S D m p a2.toInt) := by
  have n6 := sb.1
  have ex := cl_eq (x := a1) (by omega)
  have ep : a1.toNatClampNeg = m := by omega
  have a1N : a1 = nI m := by rw [← ep]; exact nI_ofI (by omega)
  have c1 := cs.1
  have c3 := cs.2.1
  have lnv : ∀ j, j < n → gi σ 3 j = nI (S_ln S j) := fun j hj => by
    have a : (gi σ 3 j).toInt = (S_ln S j : Int) := cs.2.2.1 j (by omega)
    have := sb.2.2.1 j (by omega)
    exact i_eq (by rw [a, nI_toInt (by omega)])
  have pl : F_X1_placeOf 1 a1 σ = (nI p, σ) := by
    unfold F_X1_placeOf
    rw [← nI_0]
    refine LF_xplaceOf (by omega) (by omega) (by rw [show gi σ (1 + 2) p = gi σ 3 p from rfl, lnv p hp, hl, a1N]) (fun j hj' => ?_) 9 0 (Nat.zero_le _) (by omega)
    rw [show gi σ (1 + 2) j = gi σ 3 j from rfl, lnv j (by omega), a1N]
    intro e
    have := congrArg Int32.toInt e
    have b := sb.2.2.1 j (by omega)
    rw [nI_toInt (by omega), nI_toInt (by omega)] at this
    exact hj j hj' (by omega)
  have pI : (nI p).toInt = (p : Int) := nI_toInt (by omega)
  obtain ⟨μ, κ, g1, k7, k2, kk, k3, k4, k5, k6⟩ := cs.2.2.2.1 m hm
  unfold F_X11_of r_of
  rw [F_isMower, fb_e, if_pos (show 0 ≤ a1.toInt ∧ a1.toInt < (gi σ 1 1).toInt by omega)]
  refine Rt_f (by decide +kernel) ?_
  rw [ep]
  by_cases e0 : a2.toInt = 0
  · refine Rt_t e0 (Rt_m (a := μ) (ci := cls κ) (z := 0) g1 kk ?_)
    rw [if_pos e0]
    exact (k4.trans k3.symm)
  refine Rt_f e0 ?_
  rw [if_neg e0]
  by_cases e1 : a2.toInt = 1
  · refine Rt_t e1 (Rt_m (a := μ) (ci := cls κ) (z := 0) g1 kk ?_)
    rw [if_pos e1]
    exact k6
  refine Rt_f e1 ?_
  rw [if_neg e1]
  by_cases e2 : a2.toInt = 2
  · refine Rt_t e2 ?_
    rw [if_pos e2]
    exact cd.2.1 m hm
  refine Rt_f e2 ?_
  rw [if_neg e2]
  by_cases e3 : a2.toInt = 3
  · refine Rt_t e3 ?_
    rw [if_pos e3]
    exact cd.2.2.1 m hm
  refine Rt_f e3 ?_
  rw [if_neg e3]
  by_cases e4 : a2.toInt = 4
  · refine Rt_t e4 ?_
    rw [if_pos e4]
    exact cd.2.2.2.1 m hm
  refine Rt_f e4 ?_
  rw [if_neg e4]
  by_cases e5 : a2.toInt = 5
  · refine Rt_t e5 ?_
    rw [if_pos e5]
    exact cd.2.2.2.2 m hm
  refine Rt_f e5 ?_
  rw [if_neg e5]
  by_cases e6 : a2.toInt = 6
  · refine Rt_t e6 (Rt_fe pl ?_)
    rw [if_pos e6]
    exact pI
  refine Rt_f e6 ?_
  rw [if_neg e6]
  by_cases e7 : a2.toInt = 7
  · refine Rt_t e7 (Rt_fe pl (Rt_fb (pacC (c0 := 1) (by decide +kernel) sb db cs cd pI (by omega)) (fun r s h => ?_)))
    rw [if_pos e7]
    exact h.1
  refine Rt_f e7 ?_
  rw [if_neg e7]
  by_cases e8 : a2.toInt = 8
  · refine Rt_t e8 (Rt_fe pl (Rt_fb (strAtC (c0 := 1) (by decide +kernel) sb db cs cd pI (by omega)) (fun r s h => ?_)))
    rw [if_pos e8]
    exact h.1
  refine Rt_f e8 ?_
  rw [if_neg e8]
  exact (rfl : (-1 : Int32).toInt = -1)
theorem ofM {n m p : Nat} {K : Int} {S : Stc} {D : Dyn} {σ : Sg} {a1 a2 : Int32} (hm9 : HMo n K S D σ) (h1 : a1.toInt = (m : Int)) (hm : m < n) (hp : p < n) (hl : S_ln S p = m) (hj : ∀ j, j < p → S_ln S j ≠ m) : Rt (F_X12_of a1 a2 σ) (fun r _ => r.toInt = r_of S D m p a2.toInt) := by
  obtain ⟨sb, db, hK, hr, h99, ms, md⟩ := hm9
  have n6 := sb.1
  have ex := cl_eq (x := a1) (by omega)
  have ep : a1.toNatClampNeg = m := by omega
  have a1N : a1 = nI m := by rw [← ep]; exact nI_ofI (by omega)
  have lnv : ∀ j, j < n → gi σ 110 j = nI (S_ln S j) := fun j hj => by
    have a : (gi σ 110 j).toInt = (S_ln S j : Int) := ms.2.2.1 j (by omega)
    have := sb.2.2.1 j (by omega)
    exact i_eq (by rw [a, nI_toInt (by omega)])
  have pl : F_X12_placeOf a1 σ = (nI p, σ) := by
    unfold F_X12_placeOf
    rw [← nI_0]
    refine LF_mplaceOf (by omega) (by rw [lnv p hp, hl, a1N]) (fun j hj' => ?_) 9 0 (Nat.zero_le _) (by omega)
    rw [lnv j (by omega), a1N]
    intro e
    have := congrArg Int32.toInt e
    have b := sb.2.2.1 j (by omega)
    rw [nI_toInt (by omega), nI_toInt (by omega)] at this
    exact hj j hj' (by omega)
  have pI : (nI p).toInt = (p : Int) := nI_toInt (by omega)
  unfold F_X12_of r_of
  rw [F_mIs ms.1 n6, fb_e, if_pos (show 0 ≤ a1.toInt ∧ a1.toInt < (n : Int) by omega)]
  refine Rt_f (by decide +kernel) ?_
  rw [ep]
  by_cases e0 : a2.toInt = 0
  · refine Rt_t e0 ?_
    rw [if_pos e0]
    exact ms.2.2.2.1 m hm
  refine Rt_f e0 ?_
  rw [if_neg e0]
  by_cases e1 : a2.toInt = 1
  · refine Rt_t e1 ?_
    rw [if_pos e1]
    exact ms.2.2.2.2.1 m hm
  refine Rt_f e1 ?_
  rw [if_neg e1]
  by_cases e2 : a2.toInt = 2
  · refine Rt_t e2 ?_
    rw [if_pos e2]
    exact md.2.1 m hm
  refine Rt_f e2 ?_
  rw [if_neg e2]
  by_cases e3 : a2.toInt = 3
  · refine Rt_t e3 ?_
    rw [if_pos e3]
    exact md.2.2.1 m hm
  refine Rt_f e3 ?_
  rw [if_neg e3]
  by_cases e4 : a2.toInt = 4
  · refine Rt_t e4 ?_
    rw [if_pos e4]
    exact md.2.2.2.1 m hm
  refine Rt_f e4 ?_
  rw [if_neg e4]
  by_cases e5 : a2.toInt = 5
  · refine Rt_t e5 ?_
    rw [if_pos e5]
    exact md.2.2.2.2 m hm
  refine Rt_f e5 ?_
  rw [if_neg e5]
  by_cases e6 : a2.toInt = 6
  · refine Rt_t e6 (Rt_fe pl ?_)
    rw [if_pos e6]
    exact pI
  refine Rt_f e6 ?_
  rw [if_neg e6]
  by_cases e7 : a2.toInt = 7
  · refine Rt_t e7 (Rt_fe pl (Rt_fb (pacM sb db ms.2 md pI (by omega)) (fun r s h => ?_)))
    rw [if_pos e7]
    exact h.1
  refine Rt_f e7 ?_
  rw [if_neg e7]
  by_cases e8 : a2.toInt = 8
  · refine Rt_t e8 (Rt_fe pl (Rt_fb (strAtM sb db ms.2 md pI (by omega)) (fun r s h => ?_)))
    rw [if_pos e8]
    exact h.1
  refine Rt_f e8 ?_
  rw [if_neg e8]
  exact (rfl : (-1 : Int32).toInt = -1)
theorem OF_eq {V : Vx} {a1 a2 r1 r2 : Int32} {σ σ1 σ2 : Sg} (q : RELF σ) (mn : MN σ) (hI : INV V σ) (f : MA σ σ1) (h1 : F_X11_of a1 a2 σ = (r1, σ1)) (h2 : F_X12_of a1 a2 σ1 = (r2, σ2)) : r1 = r2 := by
  obtain ⟨n, S, D, hn, hm, cs, cd, hln, -⟩ := HX q mn hI
  have hm1 := HMo_ma f hm
  have n6 := hm.1.1
  by_cases c : 0 ≤ a1.toInt ∧ a1.toInt < (n : Int)
  · have hc := q.1.1.1
    obtain ⟨k0, hk0, hk1⟩ := hI.2.2.2.2.1 a1.toNatClampNeg (by have := cl_eq (x := a1) c.1; omega)
    have ex := cl_eq (x := a1) c.1
    have hl0 : S_ln S k0 = a1.toNatClampNeg := by rw [hln k0 (by omega), hk1]; exact nI_clamp (by omega)
    obtain ⟨p, hp1, hp2, hp3⟩ := least_of (P := fun j => S_ln S j = a1.toNatClampNeg) (k0 + 1) k0 (by omega) hl0
    have A := Rt_of (ofC (a2 := a2) hm.1 hm.2.1 hm.2.2.2.1 cs cd ex.symm (by omega) (p := p) (by omega) hp2 hp3) h1
    have B := Rt_of (ofM (a2 := a2) hm1 ex.symm (by omega) (p := p) (by omega) hp2 hp3) h2
    exact i_eq (A.trans B.symm)
  · unfold F_X11_of at h1
    unfold F_X12_of at h2
    rw [F_isMower, fb_e, if_neg (show ¬ (0 ≤ a1.toInt ∧ a1.toInt < (gi σ 1 1).toInt) by omega), if_pos rfl] at h1
    rw [F_mIs hm1.2.2.2.2.2.1.1 n6, fb_e, if_neg c, if_pos rfl] at h2
    rw [← (Prod.mk.inj h1).1, ← (Prod.mk.inj h2).1]
/-! told -/
theorem TOLD_eq {V : Vx} {a1 r1 r2 : Int32} {σ σ1 σ2 : Sg} (q : RELF σ) (mn : MN σ) (hI : INV V σ) (f : FX (fun _ => False) (fun _ _ => False) σ σ1) (h1 : F_X11_told a1 σ = (r1, σ1)) (h2 : F_X12_told a1 σ1 = (r2, σ2)) : r1 = r2 := by
  obtain ⟨n, S, D, hn, hm, cs, cd, -⟩ := HX q mn hI
  have e := FX_nil f
  subst e
  obtain ⟨sb, db, hK, hr, h99, ms, md⟩ := hm
  have n6 := sb.1
  have hc := q.1.1.1
  have rl := q.1.2.2.2.1
  obtain ⟨c1, c2, c3, c4, c5, ⟨fd, g10, hf, fa⟩, c7, c8⟩ := cs
  have m11' : (gi σ 1 11).toInt = -1 := by rw [mn.2.2.2.2.2.2.1]; rfl
  have sg : S_gp S = (lastW 2 2 (S_cl S) : Int) := by
    rcases c8 with ⟨a, -⟩ | ⟨-, b⟩
    · omega
    · exact b
  have z0 : (0 : Int32).toInt = 0 := rfl
  have z1 : (1 : Int32).toInt = 1 := rfl
  have z2 : (2 : Int32).toInt = 2 := rfl
  have z3 : (3 : Int32).toInt = 3 := rfl
  have z10 : (10 : Int32).toInt = 10 := rfl
  have e9 : ((9 : Int32) + gi σ 74 0).toInt = 9 + (n : Int) := by rw [i_addl (k := 9) rfl (by omega) (by omega)]; omega
  unfold F_X11_told at h1
  unfold F_X12_told at h2
  rw [F_in, fb_e, e9] at h2
  rw [g10] at h1
  by_cases q0 : a1.toInt = 0
  · rw [if_pos q0] at h1
    rw [if_neg (show ¬ ((10 : Int32).toInt ≤ a1.toInt ∧ a1.toInt ≤ 9 + (n : Int)) by omega), if_pos rfl, if_pos q0] at h2
    rw [← (Prod.mk.inj h1).1, ← (Prod.mk.inj h2).1]
    exact i_eq (by rw [cd.1, md.1])
  rw [if_neg q0] at h1
  by_cases q1 : a1.toInt = 1
  · rw [if_pos q1] at h1
    obtain ⟨g, l1, l2⟩ := gapM sb ms.2
    rw [if_neg (show ¬ ((10 : Int32).toInt ≤ a1.toInt ∧ a1.toInt ≤ 9 + (n : Int)) by omega), if_pos rfl, if_neg q0, if_pos q1, l1, fb_e] at h2
    have h1 : (gi σ fd 0, σ) = (r1, σ) := h1
    rw [← (Prod.mk.inj h1).1, ← (Prod.mk.inj h2).1]
    exact i_eq (by rw [l2, sg, fa.2.1.1])
  rw [if_neg q1] at h1
  by_cases q2 : a1.toInt = 2
  · rw [if_pos q2] at h1
    obtain ⟨g, l1, l2⟩ := lastM (w := 3) (d := 1) (x1 := (3 : Int32)) (x2 := (1 : Int32)) sb.2.2.2.2.2.2.2.2.1 sb.2.2.2.2.2.2.2.2.2 rfl rfl ms.2.2.2.2.2.2.1
    rw [if_neg (show ¬ ((10 : Int32).toInt ≤ a1.toInt ∧ a1.toInt ≤ 9 + (n : Int)) by omega), if_pos rfl, if_neg q0, if_neg q1, if_pos q2, l1, fb_e] at h2
    have h1 : (gi σ fd 1, σ) = (r1, σ) := h1
    rw [← (Prod.mk.inj h1).1, ← (Prod.mk.inj h2).1]
    exact i_eq (by rw [l2, fa.2.1.2.1])
  rw [if_neg q2] at h1
  by_cases q3 : a1.toInt = 3
  · rw [if_pos q3] at h1
    obtain ⟨g, l1, l2⟩ := lngM sb ms
    rw [if_neg (show ¬ ((10 : Int32).toInt ≤ a1.toInt ∧ a1.toInt ≤ 9 + (n : Int)) by omega), if_pos rfl, if_neg q0, if_neg q1, if_neg q2, if_pos q3, l1, fb_e] at h2
    have h1 : (gi σ fd 2, σ) = (r1, σ) := h1
    rw [← (Prod.mk.inj h1).1, ← (Prod.mk.inj h2).1]
    exact i_eq (by rw [l2, fa.2.1.2.2]; rfl)
  rw [if_neg q3] at h1
  by_cases c : 10 ≤ a1.toInt ∧ a1.toInt ≤ 9 + (n : Int)
  · have x1 : (a1 - (10 : Int32)).toInt = a1.toInt - 10 := by rw [i_sub (y := (10 : Int32)) (by show (_ : Int) ≤ _ - 10; omega) (by show _ - 10 ≤ (_ : Int); omega)]; rfl
    have ex := cl_eq (x := a1 - (10 : Int32)) (by omega)
    rw [if_neg (show ¬ a1 < (10 : Int32) from i_nlt (show (10 : Int) ≤ a1.toInt from c.1)), if_neg (i_nle (by omega))] at h1
    rw [if_pos (show (10 : Int32).toInt ≤ a1.toInt ∧ a1.toInt ≤ 9 + (n : Int) from c), if_neg (show ¬ (1 : Int32) = 0 by decide +kernel)] at h2
    rw [← (Prod.mk.inj h1).1, ← (Prod.mk.inj h2).1]
    exact rl _ (by omega)
  · rw [if_neg (show ¬ ((10 : Int32).toInt ≤ a1.toInt ∧ a1.toInt ≤ 9 + (n : Int)) from c), if_pos rfl, if_neg q0, if_neg q1, if_neg q2, if_neg q3] at h2
    rw [← (Prod.mk.inj h2).1]
    by_cases d : a1.toInt < 10
    · rw [if_pos (i_lt (show _ < (10 : Int) from d))] at h1
      rw [← (Prod.mk.inj h1).1]
    · have x1 : (a1 - (10 : Int32)).toInt = a1.toInt - 10 := by
        have := Int32.toInt_lt a1
        rw [i_sub (y := (10 : Int32)) (by show (_ : Int) ≤ _ - 10; omega) (by show _ - 10 ≤ (_ : Int); omega)]; rfl
      rw [if_neg (i_nlt (show (10 : Int) ≤ _ by omega)), if_pos (i_le (by omega))] at h1
      rw [← (Prod.mk.inj h1).1]
/-! judge -/
theorem jdgL {n t : Nat} {σ : Sg} {a1 a2 : Int32} (ht : t < 6) (h1 : a1.toInt = (t : Int)) (n6 : n ≤ 6) (c1 : (gi σ 1 1).toInt = (n : Int)) (m0 : (gi σ 74 0).toInt = (n : Int)) (tp : TAP σ) (lb : 0 ≤ (gi σ 172 t).toInt ∧ (gi σ 172 t).toInt ≤ 60) (ea : ∀ m, m < n → gi σ 4 m = gi σ 105 m) : ∀ (k p N N' : Nat) (x : Int32), p + k = n → k < N → k < N' → x.toInt = (p : Int) →
    ∃ r, LF_X11_judge N a2 (52 + 2 * t) x σ = (r, σ) ∧ LF_X12_judge N' a1 a2 x σ = (r, σ) := by
  obtain ⟨t1, t2, t3, t4⟩ := tp t ht
  have e1 := cl_eq (x := a1) (by omega)
  have et : a1.toNatClampNeg = t := by omega
  intro k
  induction k with
  | zero =>
    intro p N N' x hp hN hN' hx
    obtain ⟨N, rfl⟩ : ∃ i, N = i + 1 := ⟨N - 1, by omega⟩
    obtain ⟨N', rfl⟩ : ∃ i, N' = i + 1 := ⟨N' - 1, by omega⟩
    show ∃ r, LB_X11_judge_37 (LF_X11_judge N) a2 (52 + 2 * t) x σ = (r, σ) ∧ LB_X12_judge_34 (LF_X12_judge N') a1 a2 x σ = (r, σ)
    unfold LB_X11_judge_37 LB_X12_judge_34
    rw [if_pos (i_le (by omega)), if_pos (i_le (by omega))]
    exact ⟨_, rfl, rfl⟩
  | succ k ih =>
    intro p N N' x hp hN hN' hx
    obtain ⟨N, rfl⟩ : ∃ i, N = i + 1 := ⟨N - 1, by omega⟩
    obtain ⟨N', rfl⟩ : ∃ i, N' = i + 1 := ⟨N' - 1, by omega⟩
    have ex := cl_eq (x := x) (by omega)
    have ep : x.toNatClampNeg = p := by omega
    show ∃ r, LB_X11_judge_37 (LF_X11_judge N) a2 (52 + 2 * t) x σ = (r, σ) ∧ LB_X12_judge_34 (LF_X12_judge N') a1 a2 x σ = (r, σ)
    unfold LB_X11_judge_37 LB_X12_judge_34
    have lm : ((gi σ 172 t - x) - (1 : Int32)).toInt = (gi σ 172 t).toInt - (p : Int) - 1 := by
      have a : (gi σ 172 t - x).toInt = (gi σ 172 t).toInt - (p : Int) := by rw [i_sub (by omega) (by omega), hx]
      rw [i_sub (y := (1 : Int32)) (by show (_ : Int) ≤ _ - 1; omega) (by show _ - 1 ≤ (_ : Int); omega), a]; rfl
    rw [if_neg (i_nle (by omega)), if_neg (i_nle (by omega)), F_has, fb_e, et, t2, ep]
    by_cases b1 : 0 ≤ a2.toInt ∧ a2.toInt < (gi σ 172 t).toInt
    · have xa : (a2 + x).toInt = a2.toInt + (p : Int) := by rw [i_add (by omega) (by omega), hx]
      have nn : ¬ (gi σ 171 t).toInt < 0 := fun z => by have := t3 z; omega
      rw [if_pos b1, if_neg (show ¬ (1 : Int32) = 0 by decide +kernel), F_has, fb_e, t2, xa, if_neg (i_nlt0 (by omega)), if_neg (i_nlt0 b1.1)]
      by_cases b2 : a2.toInt + (p : Int) < (gi σ 172 t).toInt
      · have exa := cl_eq (x := a2 + x) (by omega)
        have ex2 := cl_eq (x := a2) b1.1
        have m60 : ((60 : Int32) * a1).toInt = 60 * a1.toInt := i_mull rfl (by omega) (by omega)
        have mm : (((60 : Int32) * a1) + a2).toInt = 60 * (t : Int) + a2.toInt := by rw [i_add (by omega) (by omega), m60, h1]
        have m3 : ((((60 : Int32) * a1) + a2) + x).toInt = 60 * (t : Int) + a2.toInt + (p : Int) := by rw [i_add (by omega) (by omega), mm, hx]
        have ex3 := cl_eq (x := (((60 : Int32) * a1) + a2) + x) (by omega)
        rw [if_pos (show 0 ≤ a2.toInt + (p : Int) ∧ a2.toInt + (p : Int) < (gi σ 172 t).toInt by omega), if_neg (show ¬ (1 : Int32) = 0 by decide +kernel), if_pos (i_le (by omega)), show (a2 + x).toNatClampNeg = a2.toNatClampNeg + p from by omega, show ((((60 : Int32) * a1) + a2) + x).toNatClampNeg = 60 * t + (a2.toNatClampNeg + p) from by omega, t4 _ (by omega), ea p (by omega)]
        by_cases d : lg_cmp (gl σ 173 (60 * t + (a2.toNatClampNeg + p))) (gi σ 105 p).toInt64 = 0
        · rw [if_pos d, if_pos d, fl_e, fl_e]
          exact ih (p + 1) N N' _ (by omega) (by omega) (by omega) (by rw [i_inc (by omega)]; omega)
        · rw [if_neg d, if_neg d]; exact ⟨_, rfl, rfl⟩
      · rw [if_neg (show ¬ (0 ≤ a2.toInt + (p : Int) ∧ a2.toInt + (p : Int) < (gi σ 172 t).toInt) by omega), if_pos rfl, if_neg (i_nle (by omega))]
        exact ⟨_, rfl, rfl⟩
    · rw [if_neg b1, if_pos rfl]
      refine ⟨(100 : Int32) + x, rfl, ?_⟩
      by_cases d : (gi σ 171 t).toInt < 0
      · rw [if_pos (i_lt0 d)]
      rw [if_neg (i_nlt0 (by omega))]
      by_cases d2 : a2.toInt < 0
      · rw [if_pos (i_lt0 d2)]
      rw [if_neg (i_nlt0 (by omega)), if_neg (i_nle (by omega))]
theorem JDG_eq {V : Vx} {a1 a2 r1 r2 : Int32} {σ σ1 σ2 : Sg} (q : REL σ) (mn : MN σ) (hI : INV V σ) (f : FX (fun _ => False) (fun _ _ => False) σ σ1) (h1 : F_X11_judge a1 a2 σ = (r1, σ1)) (h2 : F_X12_judge a1 a2 σ1 = (r2, σ2)) : r1 = r2 := by
  have e := FX_nil f
  subst e
  have hc := q.1.1
  have hm := MI_f0 hI.2.1
  have tb := TAP_b hI.1.1
  obtain ⟨n, hn⟩ : ∃ n : Nat, (gi σ 1 1).toInt = (n : Int) := ⟨(gi σ 1 1).toInt.toNat, by omega⟩
  have ea : ∀ m, m < n → gi σ 4 m = gi σ 105 m := fun m h => ((mn.2.2.1 m (by omega)).1 (by omega)).1
  unfold F_X11_judge at h1
  unfold F_X12_judge at h2
  rw [F_isTape, fb_e] at h1
  rw [F_misTape, fb_e] at h2
  by_cases c : 0 ≤ a1.toInt ∧ a1.toInt ≤ 5
  · have e1 := cl_eq (x := a1) c.1
    obtain ⟨t, et⟩ : ∃ t, t = a1.toNatClampNeg := ⟨_, rfl⟩
    obtain ⟨t1, t2, t3, t4⟩ := q.2.1 t (by omega)
    have lb := tb t (by omega)
    rw [t2] at lb
    obtain ⟨r, j1, j2⟩ := jdgL (a1 := a1) (a2 := a2) (show t < 6 by omega) (by omega) (by omega) hn (by omega) q.2.1 lb ea n 0 9 20 (0 : Int32) (by omega) (by omega) (by omega) rfl
    rw [if_pos c, if_neg (show ¬ (1 : Int32) = 0 by decide +kernel), F_isEmpty, fb_e, ← et, t1, j1] at h1
    rw [if_pos c, if_neg (show ¬ (1 : Int32) = 0 by decide +kernel), ← et, j2] at h2
    by_cases d : (gi σ 171 t).toInt < 0
    · rw [if_pos d, if_neg (show ¬ (1 : Int32) = 0 by decide +kernel)] at h1
      rw [if_pos (i_lt0 d)] at h2
      rw [← (Prod.mk.inj h1).1, ← (Prod.mk.inj h2).1]
    · rw [if_neg d, if_pos rfl] at h1
      rw [if_neg (i_nlt0 (by omega))] at h2
      by_cases d1 : (gi σ 171 t) = (1 : Int32)
      · rw [if_pos d1] at h1 h2
        rw [← (Prod.mk.inj h1).1, ← (Prod.mk.inj h2).1]
      · rw [if_neg d1] at h1 h2
        rw [← (Prod.mk.inj h1).1, ← (Prod.mk.inj h2).1]
  · rw [if_neg c, if_pos rfl] at h1
    rw [if_neg c, if_pos rfl] at h2
    rw [← (Prod.mk.inj h1).1, ← (Prod.mk.inj h2).1]
/-! methods in words of INV, with what they are as functions -/
set_option maxHeartbeats 4000000 in
theorem L4_X11_of {l : Launch} {V : Vx} {a1 : Int32} {a2 : Int32} {σ0 : Sg} {Qk : Int32 → Sg → Prop} (q : INV V σ0) (h9ret : ∀ (r : Int32) (σ' : Sg), INV V σ' → (FX (fun id => id = 16) (fun _ _ => False) σ0 σ') → (F_X11_of a1 a2 σ0 = (r, σ')) → Qk r σ') : K_X11_of l V a1 a2 σ0 Qk := by
  refine kF_X11_of q.1.1 q.1.2.1 q.1.2.2.2.1 (fun r σ' p0 p1 p2 p3 => h9ret r σ' ?_ p1 p3)
  exact INV_fx (FX_tr FX_rf p1 (by intro id h9; (try dsimp only at h9) <;> unfold Sf <;> first | exact h9.elim | omega) (by intro id k h9; (try dsimp only at h9) <;> unfold Sf Ff <;> first | exact h9.elim | omega)) p0 q
set_option maxHeartbeats 4000000 in
theorem L4_X11_set {l : Launch} {V : Vx} {a1 : Int32} {a2 : Int32} {a3 : Int32} {σ0 : Sg} {Qk : Int32 → Sg → Prop} (q : INV V σ0) (h9ret : ∀ (r : Int32) (σ' : Sg), INV V σ' → (FX (fun id => id = 4 ∨ id = 5 ∨ id = 6 ∨ id = 7) (fun _ _ => False) σ0 σ') → (F_X11_set a1 a2 a3 σ0 = (r, σ')) → Qk r σ') : K_X11_set l V a1 a2 a3 σ0 Qk := by
  refine kF_X11_set q.1.1 (fun r σ' p0 p1 p2 => h9ret r σ' ?_ p1 p2)
  exact INV_fx (FX_tr FX_rf p1 (by intro id h9; (try dsimp only at h9) <;> unfold Sf <;> first | exact h9.elim | omega) (by intro id k h9; (try dsimp only at h9) <;> unfold Sf Ff <;> first | exact h9.elim | omega)) p0 q
set_option maxHeartbeats 4000000 in
theorem L4_X11_told {l : Launch} {V : Vx} {a1 : Int32} {σ0 : Sg} {Qk : Int32 → Sg → Prop} (q : INV V σ0) (h9ret : ∀ (r : Int32) (σ' : Sg), INV V σ' → (FX (fun id => False) (fun _ _ => False) σ0 σ') → (F_X11_told a1 σ0 = (r, σ')) → Qk r σ') : K_X11_told l V a1 σ0 Qk := by
  refine kF_X11_told q.1.1 (fun r σ' p0 p1 p2 => h9ret r σ' ?_ p1 p2)
  exact INV_fx (FX_tr FX_rf p1 (by intro id h9; (try dsimp only at h9) <;> unfold Sf <;> first | exact h9.elim | omega) (by intro id k h9; (try dsimp only at h9) <;> unfold Sf Ff <;> first | exact h9.elim | omega)) p0 q
set_option maxHeartbeats 4000000 in
theorem L4_X11_minute {l : Launch} {V : Vx} {σ0 : Sg} {Qk : Int32 → Sg → Prop} (q : INV V σ0) (h9ret : ∀ (r : Int32) (σ' : Sg), INV V σ' → (FX (fun id => id = 15 ∨ id = 16 ∨ id = 4 ∨ id = 5 ∨ id = 6 ∨ id = 7) (fun id k => (id = 1 ∧ k = 9)) σ0 σ') → ((gi σ' 1 9).toInt ≤ 9999) → (F_X11_minute σ0 = (r, σ')) → Qk r σ') : K_X11_minute l V σ0 Qk := by
  refine kF_X11_minute q.1.1 q.1.2.1 q.1.2.2.2.2.2.1 (fun r σ' p0 p1 p2 p3 p4 => h9ret r σ' ?_ p1 p3 p4)
  obtain ⟨⟨q1, q2, q3, q4, q5, q6, q7, q8, q9, q10⟩, qm⟩ := q
  exact ⟨⟨p0, p2, NN_fx q3 p1 (by intro h9; (try dsimp only at h9) <;> first | exact h9 | omega) (by intro h9; (try dsimp only at h9) <;> first | exact h9 | omega) (by intro h9; (try dsimp only at h9) <;> first | exact h9 | omega) (by intro h9; (try dsimp only at h9) <;> first | exact h9 | omega) (by intro h9; (try dsimp only at h9) <;> first | exact h9 | omega) (fun k => (by intro h9; (try dsimp only at h9) <;> first | exact h9 | omega)) (fun k => (by intro h9; (try dsimp only at h9) <;> first | exact h9 | omega)), by rw [FX_i p1 (id := 1) (k := 3) (by intro h9; (try dsimp only at h9) <;> first | exact h9 | omega) (by intro h9; (try dsimp only at h9) <;> first | exact h9 | omega), FX_i p1 (id := 1) (k := 1) (by intro h9; (try dsimp only at h9) <;> first | exact h9 | omega) (by intro h9; (try dsimp only at h9) <;> first | exact h9 | omega)]; exact q4, by rw [FX_i p1 (id := 17) (k := 3) (by intro h9; (try dsimp only at h9) <;> first | exact h9 | omega) (by intro h9; (try dsimp only at h9) <;> first | exact h9 | omega), FX_i p1 (id := 17) (k := 1) (by intro h9; (try dsimp only at h9) <;> first | exact h9 | omega) (by intro h9; (try dsimp only at h9) <;> first | exact h9 | omega)]; exact q5, p3, by rw [FX_i p1 (id := 17) (k := 9) (by intro h9; (try dsimp only at h9) <;> first | exact h9 | omega) (by intro h9; (try dsimp only at h9) <;> first | exact h9 | omega)]; exact q7, by rw [FX_i p1 (id := 9) (k := 1) (by intro h9; (try dsimp only at h9) <;> first | exact h9 | omega) (by intro h9; (try dsimp only at h9) <;> first | exact h9 | omega)]; exact q8, by rw [FX_i p1 (id := 25) (k := 1) (by intro h9; (try dsimp only at h9) <;> first | exact h9 | omega) (by intro h9; (try dsimp only at h9) <;> first | exact h9 | omega)]; exact q9, FI_fx p1 (by intro h9; (try dsimp only at h9) <;> first | exact h9 | omega) (fun k => (by intro h9; (try dsimp only at h9) <;> first | exact h9 | omega)) q10⟩, IVM_ag (MA_fx p1 (by intro id h9; (try dsimp only at h9) <;> omega) (by intro id k h9; (try dsimp only at h9) <;> first | exact h9.elim | omega)) qm⟩
set_option maxHeartbeats 4000000 in
theorem L4_X11_whet {l : Launch} {V : Vx} {σ0 : Sg} {Qk : Int32 → Sg → Prop} (q : INV V σ0) (h9ret : ∀ (r : Int32) (σ' : Sg), INV V σ' → (FX (fun id => id = 5 ∨ id = 6 ∨ id = 7) (fun id k => (id = 1 ∧ k = 9)) σ0 σ') → ((gi σ' 1 9).toInt ≤ 9999) → (F_X11_whet σ0 = (r, σ')) → Qk r σ') : K_X11_whet l V σ0 Qk := by
  refine kF_X11_whet q.1.1 q.1.2.1 q.1.2.2.2.2.2.1 (fun r σ' p0 p1 p2 p3 p4 => h9ret r σ' ?_ p1 p3 p4)
  obtain ⟨⟨q1, q2, q3, q4, q5, q6, q7, q8, q9, q10⟩, qm⟩ := q
  exact ⟨⟨p0, p2, NN_fx q3 p1 (by intro h9; (try dsimp only at h9) <;> first | exact h9 | omega) (by intro h9; (try dsimp only at h9) <;> first | exact h9 | omega) (by intro h9; (try dsimp only at h9) <;> first | exact h9 | omega) (by intro h9; (try dsimp only at h9) <;> first | exact h9 | omega) (by intro h9; (try dsimp only at h9) <;> first | exact h9 | omega) (fun k => (by intro h9; (try dsimp only at h9) <;> first | exact h9 | omega)) (fun k => (by intro h9; (try dsimp only at h9) <;> first | exact h9 | omega)), by rw [FX_i p1 (id := 1) (k := 3) (by intro h9; (try dsimp only at h9) <;> first | exact h9 | omega) (by intro h9; (try dsimp only at h9) <;> first | exact h9 | omega), FX_i p1 (id := 1) (k := 1) (by intro h9; (try dsimp only at h9) <;> first | exact h9 | omega) (by intro h9; (try dsimp only at h9) <;> first | exact h9 | omega)]; exact q4, by rw [FX_i p1 (id := 17) (k := 3) (by intro h9; (try dsimp only at h9) <;> first | exact h9 | omega) (by intro h9; (try dsimp only at h9) <;> first | exact h9 | omega), FX_i p1 (id := 17) (k := 1) (by intro h9; (try dsimp only at h9) <;> first | exact h9 | omega) (by intro h9; (try dsimp only at h9) <;> first | exact h9 | omega)]; exact q5, p3, by rw [FX_i p1 (id := 17) (k := 9) (by intro h9; (try dsimp only at h9) <;> first | exact h9 | omega) (by intro h9; (try dsimp only at h9) <;> first | exact h9 | omega)]; exact q7, by rw [FX_i p1 (id := 9) (k := 1) (by intro h9; (try dsimp only at h9) <;> first | exact h9 | omega) (by intro h9; (try dsimp only at h9) <;> first | exact h9 | omega)]; exact q8, by rw [FX_i p1 (id := 25) (k := 1) (by intro h9; (try dsimp only at h9) <;> first | exact h9 | omega) (by intro h9; (try dsimp only at h9) <;> first | exact h9 | omega)]; exact q9, FI_fx p1 (by intro h9; (try dsimp only at h9) <;> first | exact h9 | omega) (fun k => (by intro h9; (try dsimp only at h9) <;> first | exact h9 | omega)) q10⟩, IVM_ag (MA_fx p1 (by intro id h9; (try dsimp only at h9) <;> omega) (by intro id k h9; (try dsimp only at h9) <;> first | exact h9.elim | omega)) qm⟩
set_option maxHeartbeats 4000000 in
theorem L4_X11_pause {l : Launch} {V : Vx} {a1 : Int32} {σ0 : Sg} {Qk : Int32 → Sg → Prop} (q : INV V σ0) (h9ret : ∀ (r : Int32) (σ' : Sg), INV V σ' → (FX (fun id => id = 6 ∨ id = 7) (fun id k => (id = 1 ∧ k = 9)) σ0 σ') → ((gi σ' 1 9).toInt ≤ 9999) → (F_X11_pause a1 σ0 = (r, σ')) → Qk r σ') : K_X11_pause l V a1 σ0 Qk := by
  refine kF_X11_pause q.1.1 q.1.2.1 q.1.2.2.2.2.2.1 (fun r σ' p0 p1 p2 p3 p4 => h9ret r σ' ?_ p1 p3 p4)
  obtain ⟨⟨q1, q2, q3, q4, q5, q6, q7, q8, q9, q10⟩, qm⟩ := q
  exact ⟨⟨p0, p2, NN_fx q3 p1 (by intro h9; (try dsimp only at h9) <;> first | exact h9 | omega) (by intro h9; (try dsimp only at h9) <;> first | exact h9 | omega) (by intro h9; (try dsimp only at h9) <;> first | exact h9 | omega) (by intro h9; (try dsimp only at h9) <;> first | exact h9 | omega) (by intro h9; (try dsimp only at h9) <;> first | exact h9 | omega) (fun k => (by intro h9; (try dsimp only at h9) <;> first | exact h9 | omega)) (fun k => (by intro h9; (try dsimp only at h9) <;> first | exact h9 | omega)), by rw [FX_i p1 (id := 1) (k := 3) (by intro h9; (try dsimp only at h9) <;> first | exact h9 | omega) (by intro h9; (try dsimp only at h9) <;> first | exact h9 | omega), FX_i p1 (id := 1) (k := 1) (by intro h9; (try dsimp only at h9) <;> first | exact h9 | omega) (by intro h9; (try dsimp only at h9) <;> first | exact h9 | omega)]; exact q4, by rw [FX_i p1 (id := 17) (k := 3) (by intro h9; (try dsimp only at h9) <;> first | exact h9 | omega) (by intro h9; (try dsimp only at h9) <;> first | exact h9 | omega), FX_i p1 (id := 17) (k := 1) (by intro h9; (try dsimp only at h9) <;> first | exact h9 | omega) (by intro h9; (try dsimp only at h9) <;> first | exact h9 | omega)]; exact q5, p3, by rw [FX_i p1 (id := 17) (k := 9) (by intro h9; (try dsimp only at h9) <;> first | exact h9 | omega) (by intro h9; (try dsimp only at h9) <;> first | exact h9 | omega)]; exact q7, by rw [FX_i p1 (id := 9) (k := 1) (by intro h9; (try dsimp only at h9) <;> first | exact h9 | omega) (by intro h9; (try dsimp only at h9) <;> first | exact h9 | omega)]; exact q8, by rw [FX_i p1 (id := 25) (k := 1) (by intro h9; (try dsimp only at h9) <;> first | exact h9 | omega) (by intro h9; (try dsimp only at h9) <;> first | exact h9 | omega)]; exact q9, FI_fx p1 (by intro h9; (try dsimp only at h9) <;> first | exact h9 | omega) (fun k => (by intro h9; (try dsimp only at h9) <;> first | exact h9 | omega)) q10⟩, IVM_ag (MA_fx p1 (by intro id h9; (try dsimp only at h9) <;> omega) (by intro id k h9; (try dsimp only at h9) <;> first | exact h9.elim | omega)) qm⟩
set_option maxHeartbeats 4000000 in
theorem L4_X11_on {l : Launch} {V : Vx} {a1 : Int32} {a2 : Int32} {σ0 : Sg} {Qk : Int32 → Sg → Prop} (q : INV V σ0) (h9ret : ∀ (r : Int32) (σ' : Sg), INV V σ' → (FX (fun id => id = 34 ∨ id = 35 ∨ id = 36 ∨ id = 37 ∨ id = 38 ∨ id = 39 ∨ id = 40 ∨ id = 47 ∨ id = 48) (fun id k => (id = 33 ∧ k = 1) ∨ (id = 33 ∧ k = 3) ∨ (id = 33 ∧ k = 9) ∨ (id = 33 ∧ k = 10) ∨ (id = 33 ∧ k = 11)) σ0 σ') → (F_X11_on a1 a2 σ0 = (r, σ')) → Qk r σ') : K_X11_on l V a1 a2 σ0 Qk := by
  refine kF_X11_on q.1.1 q.1.2.1 q.1.2.2.2.2.2.1 (fun r σ' p0 p1 p2 p3 => h9ret r σ' ?_ p1 p3)
  exact INV_fx (FX_tr FX_rf p1 (by intro id h9; (try dsimp only at h9) <;> unfold Sf <;> first | exact h9.elim | omega) (by intro id k h9; (try dsimp only at h9) <;> unfold Sf Ff <;> first | exact h9.elim | omega)) p0 q
set_option maxHeartbeats 4000000 in
theorem L4_X11_done {l : Launch} {V : Vx} {σ0 : Sg} {Qk : Int32 → Sg → Prop} (q : INV V σ0) (h9ret : ∀ (r : Int32) (σ' : Sg), INV V σ' → (FX (fun id => id = 34 ∨ id = 35 ∨ id = 36 ∨ id = 37 ∨ id = 38 ∨ id = 39 ∨ id = 40 ∨ id = 47 ∨ id = 48) (fun id k => (id = 33 ∧ k = 1) ∨ (id = 33 ∧ k = 3) ∨ (id = 33 ∧ k = 9) ∨ (id = 33 ∧ k = 10) ∨ (id = 33 ∧ k = 11)) σ0 σ') → (F_X11_done σ0 = (r, σ')) → Qk r σ') : K_X11_done l V σ0 Qk := by
  refine kF_X11_done q.1.1 q.1.2.1 q.1.2.2.2.2.2.1 (fun r σ' p0 p1 p2 p3 => h9ret r σ' ?_ p1 p3)
  exact INV_fx (FX_tr FX_rf p1 (by intro id h9; (try dsimp only at h9) <;> unfold Sf <;> first | exact h9.elim | omega) (by intro id k h9; (try dsimp only at h9) <;> unfold Sf Ff <;> first | exact h9.elim | omega)) p0 q
set_option maxHeartbeats 4000000 in
theorem L4_X11_whets {l : Launch} {V : Vx} {a1 : Int32} {a2 : Int32} {σ0 : Sg} {Qk : Int32 → Sg → Prop} (q : INV V σ0) (h9ret : ∀ (r : Int32) (σ' : Sg), INV V σ' → (FX (fun id => id = 34 ∨ id = 35 ∨ id = 36 ∨ id = 37 ∨ id = 38 ∨ id = 39 ∨ id = 40 ∨ id = 47 ∨ id = 48) (fun id k => (id = 33 ∧ k = 1) ∨ (id = 33 ∧ k = 3) ∨ (id = 33 ∧ k = 9) ∨ (id = 33 ∧ k = 10) ∨ (id = 33 ∧ k = 11)) σ0 σ') → (F_X11_whets a1 a2 σ0 = (r, σ')) → Qk r σ') : K_X11_whets l V a1 a2 σ0 Qk := by
  refine kF_X11_whets q.1.1 q.1.2.1 q.1.2.2.2.2.2.1 (fun r σ' p0 p1 p2 p3 => h9ret r σ' ?_ p1 p3)
  exact INV_fx (FX_tr FX_rf p1 (by intro id h9; (try dsimp only at h9) <;> unfold Sf <;> first | exact h9.elim | omega) (by intro id k h9; (try dsimp only at h9) <;> unfold Sf Ff <;> first | exact h9.elim | omega)) p0 q
set_option maxHeartbeats 4000000 in
theorem L4_X11_apart {l : Launch} {V : Vx} {a1 : Int32} {a2 : Int32} {σ0 : Sg} {Qk : Int32 → Sg → Prop} (q : INV V σ0) (h9ret : ∀ (r : Int32) (σ' : Sg), INV V σ' → (FX (fun id => id = 34 ∨ id = 35 ∨ id = 36 ∨ id = 37 ∨ id = 38 ∨ id = 39 ∨ id = 40 ∨ id = 47 ∨ id = 48) (fun id k => (id = 33 ∧ k = 1) ∨ (id = 33 ∧ k = 3) ∨ (id = 33 ∧ k = 9) ∨ (id = 33 ∧ k = 10) ∨ (id = 33 ∧ k = 11)) σ0 σ') → (F_X11_apart a1 a2 σ0 = (r, σ')) → Qk r σ') : K_X11_apart l V a1 a2 σ0 Qk := by
  refine kF_X11_apart q.1.1 q.1.2.1 q.1.2.2.2.2.2.1 (fun r σ' p0 p1 p2 p3 => h9ret r σ' ?_ p1 p3)
  exact INV_fx (FX_tr FX_rf p1 (by intro id h9; (try dsimp only at h9) <;> unfold Sf <;> first | exact h9.elim | omega) (by intro id k h9; (try dsimp only at h9) <;> unfold Sf Ff <;> first | exact h9.elim | omega)) p0 q
set_option maxHeartbeats 4000000 in
theorem L4_X11_stop {l : Launch} {V : Vx} {a1 : Int32} {a2 : Int32} {a3 : Int32} {a4 : Int32} {σ0 : Sg} {Qk : Int32 → Sg → Prop} (q : INV V σ0) (h9ret : ∀ (r : Int32) (σ' : Sg), INV V σ' → (FX (fun id => id = 34 ∨ id = 35 ∨ id = 36 ∨ id = 37 ∨ id = 38 ∨ id = 39 ∨ id = 40 ∨ id = 47 ∨ id = 48 ∨ id = 68) (fun id k => (id = 33 ∧ k = 1) ∨ (id = 33 ∧ k = 3) ∨ (id = 33 ∧ k = 9) ∨ (id = 33 ∧ k = 10) ∨ (id = 33 ∧ k = 11)) σ0 σ') → (F_X11_stop a1 a2 a3 a4 σ0 = (r, σ')) → Qk r σ') : K_X11_stop l V a1 a2 a3 a4 σ0 Qk := by
  refine kF_X11_stop q.1.1 q.1.2.1 q.1.2.2.2.2.2.1 (fun r σ' p0 p1 p2 p3 => h9ret r σ' ?_ p1 p3)
  exact INV_fx (FX_tr FX_rf p1 (by intro id h9; (try dsimp only at h9) <;> unfold Sf <;> first | exact h9.elim | omega) (by intro id k h9; (try dsimp only at h9) <;> unfold Sf Ff <;> first | exact h9.elim | omega)) p0 q
set_option maxHeartbeats 4000000 in
theorem L4_X11_alone {l : Launch} {V : Vx} {a1 : Int32} {σ0 : Sg} {Qk : Int32 → Sg → Prop} (q : INV V σ0) (h9ret : ∀ (r : Int32) (σ' : Sg), INV V σ' → (FX (fun id => id = 34 ∨ id = 35 ∨ id = 36 ∨ id = 37 ∨ id = 38 ∨ id = 39 ∨ id = 40 ∨ id = 47 ∨ id = 48) (fun id k => (id = 33 ∧ k = 1) ∨ (id = 33 ∧ k = 3) ∨ (id = 33 ∧ k = 9) ∨ (id = 33 ∧ k = 10) ∨ (id = 33 ∧ k = 11)) σ0 σ') → (F_X11_alone a1 σ0 = (r, σ')) → Qk r σ') : K_X11_alone l V a1 σ0 Qk := by
  refine kF_X11_alone q.1.1 q.1.2.1 q.1.2.2.2.2.2.1 (fun r σ' p0 p1 p2 p3 => h9ret r σ' ?_ p1 p3)
  exact INV_fx (FX_tr FX_rf p1 (by intro id h9; (try dsimp only at h9) <;> unfold Sf <;> first | exact h9.elim | omega) (by intro id k h9; (try dsimp only at h9) <;> unfold Sf Ff <;> first | exact h9.elim | omega)) p0 q
set_option maxHeartbeats 4000000 in
theorem L4_X11_rest {l : Launch} {V : Vx} {a1 : Int32} {a2 : Int32} {σ0 : Sg} {Qk : Int32 → Sg → Prop} (q : INV V σ0) (h9ret : ∀ (r : Int32) (σ' : Sg), INV V σ' → (FX (fun id => id = 34 ∨ id = 35 ∨ id = 36 ∨ id = 37 ∨ id = 38 ∨ id = 39 ∨ id = 40 ∨ id = 47 ∨ id = 48) (fun id k => (id = 33 ∧ k = 1) ∨ (id = 33 ∧ k = 3) ∨ (id = 33 ∧ k = 9) ∨ (id = 33 ∧ k = 10) ∨ (id = 33 ∧ k = 11)) σ0 σ') → (F_X11_rest a1 a2 σ0 = (r, σ')) → Qk r σ') : K_X11_rest l V a1 a2 σ0 Qk := by
  refine kF_X11_rest q.1.1 q.1.2.1 q.1.2.2.2.2.2.1 (fun r σ' p0 p1 p2 p3 => h9ret r σ' ?_ p1 p3)
  exact INV_fx (FX_tr FX_rf p1 (by intro id h9; (try dsimp only at h9) <;> unfold Sf <;> first | exact h9.elim | omega) (by intro id k h9; (try dsimp only at h9) <;> unfold Sf Ff <;> first | exact h9.elim | omega)) p0 q
set_option maxHeartbeats 4000000 in
theorem L4_X11_paused {l : Launch} {V : Vx} {a1 : Int32} {a2 : Int32} {σ0 : Sg} {Qk : Int32 → Sg → Prop} (q : INV V σ0) (h9ret : ∀ (r : Int32) (σ' : Sg), INV V σ' → (FX (fun id => id = 34 ∨ id = 35 ∨ id = 36 ∨ id = 37 ∨ id = 38 ∨ id = 39 ∨ id = 40 ∨ id = 47 ∨ id = 48) (fun id k => (id = 33 ∧ k = 1) ∨ (id = 33 ∧ k = 3) ∨ (id = 33 ∧ k = 9) ∨ (id = 33 ∧ k = 10) ∨ (id = 33 ∧ k = 11)) σ0 σ') → (F_X11_paused a1 a2 σ0 = (r, σ')) → Qk r σ') : K_X11_paused l V a1 a2 σ0 Qk := by
  refine kF_X11_paused q.1.1 q.1.2.1 q.1.2.2.2.2.2.1 (fun r σ' p0 p1 p2 p3 => h9ret r σ' ?_ p1 p3)
  exact INV_fx (FX_tr FX_rf p1 (by intro id h9; (try dsimp only at h9) <;> unfold Sf <;> first | exact h9.elim | omega) (by intro id k h9; (try dsimp only at h9) <;> unfold Sf Ff <;> first | exact h9.elim | omega)) p0 q
set_option maxHeartbeats 4000000 in
theorem L4_X11_who {l : Launch} {V : Vx} {σ0 : Sg} {Qk : Int32 → Sg → Prop} (q : INV V σ0) (h9ret : ∀ (r : Int32) (σ' : Sg), INV V σ' → (FX (fun id => id = 34 ∨ id = 35 ∨ id = 36 ∨ id = 37 ∨ id = 38 ∨ id = 39 ∨ id = 40 ∨ id = 47 ∨ id = 48) (fun id k => (id = 33 ∧ k = 1) ∨ (id = 33 ∧ k = 3) ∨ (id = 33 ∧ k = 9) ∨ (id = 33 ∧ k = 10) ∨ (id = 33 ∧ k = 11)) σ0 σ') → (F_X11_who σ0 = (r, σ')) → Qk r σ') : K_X11_who l V σ0 Qk := by
  refine kF_X11_who q.1.1 q.1.2.1 q.1.2.2.2.2.2.1 (fun r σ' p0 p1 p2 p3 => h9ret r σ' ?_ p1 p3)
  exact INV_fx (FX_tr FX_rf p1 (by intro id h9; (try dsimp only at h9) <;> unfold Sf <;> first | exact h9.elim | omega) (by intro id k h9; (try dsimp only at h9) <;> unfold Sf Ff <;> first | exact h9.elim | omega)) p0 q
set_option maxHeartbeats 4000000 in
theorem L4_X11_odds {l : Launch} {V : Vx} {a1 : Int32} {a2 : Int32} {a3 : Int32} {σ0 : Sg} {Qk : Int64 → Sg → Prop} (q : INV V σ0) (h9ret : ∀ (r : Int64) (σ' : Sg), INV V σ' → (FX (fun id => id = 34 ∨ id = 35 ∨ id = 36 ∨ id = 37 ∨ id = 38 ∨ id = 39 ∨ id = 40 ∨ id = 47 ∨ id = 48) (fun id k => (id = 33 ∧ k = 1) ∨ (id = 33 ∧ k = 3) ∨ (id = 33 ∧ k = 9) ∨ (id = 33 ∧ k = 10) ∨ (id = 33 ∧ k = 11)) σ0 σ') → (F_X11_odds a1 a2 a3 σ0 = (r, σ')) → Qk r σ') : K_X11_odds l V a1 a2 a3 σ0 Qk := by
  refine kF_X11_odds q.1.1 q.1.2.1 q.1.2.2.2.2.2.1 (fun r σ' p0 p1 p2 p3 => h9ret r σ' ?_ p1 p3)
  exact INV_fx (FX_tr FX_rf p1 (by intro id h9; (try dsimp only at h9) <;> unfold Sf <;> first | exact h9.elim | omega) (by intro id k h9; (try dsimp only at h9) <;> unfold Sf Ff <;> first | exact h9.elim | omega)) p0 q
set_option maxHeartbeats 4000000 in
theorem L4_X11_mean {l : Launch} {V : Vx} {a1 : Int32} {a2 : Int32} {σ0 : Sg} {Qk : Int64 → Sg → Prop} (q : INV V σ0) (h9ret : ∀ (r : Int64) (σ' : Sg), INV V σ' → (FX (fun id => id = 34 ∨ id = 35 ∨ id = 36 ∨ id = 37 ∨ id = 38 ∨ id = 39 ∨ id = 40 ∨ id = 47 ∨ id = 48) (fun id k => (id = 33 ∧ k = 1) ∨ (id = 33 ∧ k = 3) ∨ (id = 33 ∧ k = 9) ∨ (id = 33 ∧ k = 10) ∨ (id = 33 ∧ k = 11)) σ0 σ') → (F_X11_mean a1 a2 σ0 = (r, σ')) → Qk r σ') : K_X11_mean l V a1 a2 σ0 Qk := by
  refine kF_X11_mean q.1.1 q.1.2.1 q.1.2.2.2.2.2.1 (fun r σ' p0 p1 p2 p3 => h9ret r σ' ?_ p1 p3)
  exact INV_fx (FX_tr FX_rf p1 (by intro id h9; (try dsimp only at h9) <;> unfold Sf <;> first | exact h9.elim | omega) (by intro id k h9; (try dsimp only at h9) <;> unfold Sf Ff <;> first | exact h9.elim | omega)) p0 q
set_option maxHeartbeats 4000000 in
theorem L4_X11_planned {l : Launch} {V : Vx} {σ0 : Sg} {Qk : Int32 → Sg → Prop} (q : INV V σ0) (h9ret : ∀ (r : Int32) (σ' : Sg), INV V σ' → (FX (fun id => id = 34 ∨ id = 35 ∨ id = 36 ∨ id = 37 ∨ id = 38 ∨ id = 39 ∨ id = 40 ∨ id = 47 ∨ id = 48) (fun id k => (id = 33 ∧ k = 1) ∨ (id = 33 ∧ k = 3) ∨ (id = 33 ∧ k = 9) ∨ (id = 33 ∧ k = 10) ∨ (id = 33 ∧ k = 11)) σ0 σ') → (F_X11_planned σ0 = (r, σ')) → Qk r σ') : K_X11_planned l V σ0 Qk := by
  refine kF_X11_planned q.1.1 q.1.2.1 q.1.2.2.2.2.2.1 (fun r σ' p0 p1 p2 p3 => h9ret r σ' ?_ p1 p3)
  exact INV_fx (FX_tr FX_rf p1 (by intro id h9; (try dsimp only at h9) <;> unfold Sf <;> first | exact h9.elim | omega) (by intro id k h9; (try dsimp only at h9) <;> unfold Sf Ff <;> first | exact h9.elim | omega)) p0 q
set_option maxHeartbeats 4000000 in
theorem L4_X11_judge {l : Launch} {V : Vx} {a1 : Int32} {a2 : Int32} {σ0 : Sg} {Qk : Int32 → Sg → Prop} (q : INV V σ0) (h9ret : ∀ (r : Int32) (σ' : Sg), INV V σ' → (FX (fun id => False) (fun _ _ => False) σ0 σ') → (F_X11_judge a1 a2 σ0 = (r, σ')) → Qk r σ') : K_X11_judge l V a1 a2 σ0 Qk := by
  refine kF_X11_judge q.1.1 (fun r σ' p0 p1 p2 => h9ret r σ' ?_ p1 p2)
  exact INV_fx (FX_tr FX_rf p1 (by intro id h9; (try dsimp only at h9) <;> unfold Sf <;> first | exact h9.elim | omega) (by intro id k h9; (try dsimp only at h9) <;> unfold Sf Ff <;> first | exact h9.elim | omega)) p0 q
set_option maxHeartbeats 4000000 in
theorem L4_X12_of {l : Launch} {V : Vx} {a1 : Int32} {a2 : Int32} {σ0 : Sg} {Qk : Int32 → Sg → Prop} (q : INV V σ0) (h9ret : ∀ (r : Int32) (σ' : Sg), INV V σ' → (Fr [74, 129] [30] σ0 σ') → (F_X12_of a1 a2 σ0 = (r, σ')) → Qk r σ') : K_X12_of l V a1 a2 σ0 Qk := by
  refine kF_X12_of q.2.1 q.2.2.2.2.1 (fun r σ' p0 p1 p2 => h9ret r σ' ?_ p1 p2)
  refine INV_m p1 (by decide +kernel) q ?_
  obtain ⟨-, q1, q2, q3, q4, q5, q6, q7⟩ := q
  exact ⟨p0, by rw [p1.2.1 12 (by decide +kernel), p1.2.1 11 (by decide +kernel)]; exact q2, by rw [p1.2.1 50 (by decide +kernel), p1.2.1 11 (by decide +kernel)]; exact q3, PL_fr q4 p1 (by decide +kernel) (by decide +kernel), PLI_fr q5 p1 (by decide +kernel) (by decide +kernel), by rw [p1.2.1 1 (by decide +kernel)]; exact q6, by rw [p1.2.1 52 (by decide +kernel)]; exact q7⟩
set_option maxHeartbeats 4000000 in
theorem L4_X12_set {l : Launch} {V : Vx} {a1 : Int32} {a2 : Int32} {a3 : Int32} {σ0 : Sg} {Qk : Int32 → Sg → Prop} (q : INV V σ0) (h9ret : ∀ (r : Int32) (σ' : Sg), INV V σ' → (Fr [105, 106, 107, 108] [] σ0 σ') → (F_X12_set a1 a2 a3 σ0 = (r, σ')) → Qk r σ') : K_X12_set l V a1 a2 a3 σ0 Qk := by
  refine kF_X12_set q.2.1 (fun r σ' p0 p1 p2 => h9ret r σ' ?_ p1 p2)
  refine INV_m p1 (by decide +kernel) q ?_
  obtain ⟨-, q1, q2, q3, q4, q5, q6, q7⟩ := q
  exact ⟨p0, by rw [p1.2.1 12 (by decide +kernel), p1.2.1 11 (by decide +kernel)]; exact q2, by rw [p1.2.1 50 (by decide +kernel), p1.2.1 11 (by decide +kernel)]; exact q3, PL_fr q4 p1 (by decide +kernel) (by decide +kernel), PLI_fr q5 p1 (by decide +kernel) (by decide +kernel), by rw [p1.2.1 1 (by decide +kernel)]; exact q6, by rw [p1.2.1 52 (by decide +kernel)]; exact q7⟩
set_option maxHeartbeats 4000000 in
theorem L4_X12_told {l : Launch} {V : Vx} {a1 : Int32} {σ0 : Sg} {Qk : Int32 → Sg → Prop} (q : INV V σ0) (h9ret : ∀ (r : Int32) (σ' : Sg), INV V σ' → (Fr [] [] σ0 σ') → (F_X12_told a1 σ0 = (r, σ')) → Qk r σ') : K_X12_told l V a1 σ0 Qk := by
  refine kF_X12_told q.2.1 (fun r σ' p0 p1 p2 => h9ret r σ' ?_ p1 p2)
  refine INV_m p1 (by decide +kernel) q ?_
  obtain ⟨-, q1, q2, q3, q4, q5, q6, q7⟩ := q
  exact ⟨p0, by rw [p1.2.1 12 (by decide +kernel), p1.2.1 11 (by decide +kernel)]; exact q2, by rw [p1.2.1 50 (by decide +kernel), p1.2.1 11 (by decide +kernel)]; exact q3, PL_fr q4 p1 (by decide +kernel) (by decide +kernel), PLI_fr q5 p1 (by decide +kernel) (by decide +kernel), by rw [p1.2.1 1 (by decide +kernel)]; exact q6, by rw [p1.2.1 52 (by decide +kernel)]; exact q7⟩
set_option maxHeartbeats 4000000 in
theorem L4_X12_minute {l : Launch} {V : Vx} {σ0 : Sg} {Qk : Int32 → Sg → Prop} (q : INV V σ0) (h9ret : ∀ (r : Int32) (σ' : Sg), INV V σ' → (Fr [74, 105, 106, 107, 108, 129, 131, 132] [1, 30] σ0 σ') → ((gi σ' 74 1).toInt ≤ 9999) → (F_X12_minute σ0 = (r, σ')) → Qk r σ') : K_X12_minute l V σ0 Qk := by
  refine kF_X12_minute q.2.1 q.2.2.2.2.2.2.1 (fun r σ' p0 p1 p2 p3 => h9ret r σ' ?_ p1 p2 p3)
  refine INV_m p1 (by decide +kernel) q ?_
  obtain ⟨-, q1, q2, q3, q4, q5, q6, q7⟩ := q
  exact ⟨p0, by rw [p1.2.1 12 (by decide +kernel), p1.2.1 11 (by decide +kernel)]; exact q2, by rw [p1.2.1 50 (by decide +kernel), p1.2.1 11 (by decide +kernel)]; exact q3, PL_fr q4 p1 (by decide +kernel) (by decide +kernel), PLI_fr q5 p1 (by decide +kernel) (by decide +kernel), p2, by rw [p1.2.1 52 (by decide +kernel)]; exact q7⟩
set_option maxHeartbeats 4000000 in
theorem L4_X12_whet {l : Launch} {V : Vx} {σ0 : Sg} {Qk : Int32 → Sg → Prop} (q : INV V σ0) (h9ret : ∀ (r : Int32) (σ' : Sg), INV V σ' → (Fr [74, 106, 107, 108] [1] σ0 σ') → ((gi σ' 74 1).toInt ≤ 9999) → (F_X12_whet σ0 = (r, σ')) → Qk r σ') : K_X12_whet l V σ0 Qk := by
  refine kF_X12_whet q.2.1 q.2.2.2.2.2.2.1 (fun r σ' p0 p1 p2 p3 => h9ret r σ' ?_ p1 p2 p3)
  refine INV_m p1 (by decide +kernel) q ?_
  obtain ⟨-, q1, q2, q3, q4, q5, q6, q7⟩ := q
  exact ⟨p0, by rw [p1.2.1 12 (by decide +kernel), p1.2.1 11 (by decide +kernel)]; exact q2, by rw [p1.2.1 50 (by decide +kernel), p1.2.1 11 (by decide +kernel)]; exact q3, PL_fr q4 p1 (by decide +kernel) (by decide +kernel), PLI_fr q5 p1 (by decide +kernel) (by decide +kernel), p2, by rw [p1.2.1 52 (by decide +kernel)]; exact q7⟩
set_option maxHeartbeats 4000000 in
theorem L4_X12_pause {l : Launch} {V : Vx} {a1 : Int32} {σ0 : Sg} {Qk : Int32 → Sg → Prop} (q : INV V σ0) (h9ret : ∀ (r : Int32) (σ' : Sg), INV V σ' → (Fr [74, 107, 108] [1] σ0 σ') → ((gi σ' 74 1).toInt ≤ 9999) → (F_X12_pause a1 σ0 = (r, σ')) → Qk r σ') : K_X12_pause l V a1 σ0 Qk := by
  refine kF_X12_pause q.2.1 q.2.2.2.2.2.2.1 (fun r σ' p0 p1 p2 p3 => h9ret r σ' ?_ p1 p2 p3)
  refine INV_m p1 (by decide +kernel) q ?_
  obtain ⟨-, q1, q2, q3, q4, q5, q6, q7⟩ := q
  exact ⟨p0, by rw [p1.2.1 12 (by decide +kernel), p1.2.1 11 (by decide +kernel)]; exact q2, by rw [p1.2.1 50 (by decide +kernel), p1.2.1 11 (by decide +kernel)]; exact q3, PL_fr q4 p1 (by decide +kernel) (by decide +kernel), PLI_fr q5 p1 (by decide +kernel) (by decide +kernel), p2, by rw [p1.2.1 52 (by decide +kernel)]; exact q7⟩
set_option maxHeartbeats 4000000 in
theorem L4_X12_on {l : Launch} {V : Vx} {a1 : Int32} {a2 : Int32} {σ0 : Sg} {Qk : Int32 → Sg → Prop} (q : INV V σ0) (h9ret : ∀ (r : Int32) (σ' : Sg), INV V σ' → (Fr [74, 105, 106, 107, 108, 129, 131, 132, 134, 135, 136, 137] [1, 30, 33] σ0 σ') → ((gi σ' 74 1).toInt = (gi σ0 74 1).toInt) → (F_X12_on a1 a2 σ0 = (r, σ')) → Qk r σ') : K_X12_on l V a1 a2 σ0 Qk := by
  refine kF_X12_on q.2.1 q.2.2.2.2.2.2.1 (fun r σ' p0 p1 p2 p3 => h9ret r σ' ?_ p1 p2 p3)
  refine INV_m p1 (by decide +kernel) q ?_
  obtain ⟨-, q1, q2, q3, q4, q5, q6, q7⟩ := q
  exact ⟨p0, by rw [p1.2.1 12 (by decide +kernel), p1.2.1 11 (by decide +kernel)]; exact q2, by rw [p1.2.1 50 (by decide +kernel), p1.2.1 11 (by decide +kernel)]; exact q3, PL_fr q4 p1 (by decide +kernel) (by decide +kernel), PLI_fr q5 p1 (by decide +kernel) (by decide +kernel), by rw [p2]; exact q6, by rw [p1.2.1 52 (by decide +kernel)]; exact q7⟩
set_option maxHeartbeats 4000000 in
theorem L4_X12_done {l : Launch} {V : Vx} {σ0 : Sg} {Qk : Int32 → Sg → Prop} (q : INV V σ0) (h9ret : ∀ (r : Int32) (σ' : Sg), INV V σ' → (Fr [74, 105, 106, 107, 108, 129, 131, 132, 134, 135, 136, 137] [1, 30, 33] σ0 σ') → ((gi σ' 74 1).toInt = (gi σ0 74 1).toInt) → (F_X12_done σ0 = (r, σ')) → Qk r σ') : K_X12_done l V σ0 Qk := by
  refine kF_X12_done q.2.1 q.2.2.2.2.2.2.1 (fun r σ' p0 p1 p2 p3 => h9ret r σ' ?_ p1 p2 p3)
  refine INV_m p1 (by decide +kernel) q ?_
  obtain ⟨-, q1, q2, q3, q4, q5, q6, q7⟩ := q
  exact ⟨p0, by rw [p1.2.1 12 (by decide +kernel), p1.2.1 11 (by decide +kernel)]; exact q2, by rw [p1.2.1 50 (by decide +kernel), p1.2.1 11 (by decide +kernel)]; exact q3, PL_fr q4 p1 (by decide +kernel) (by decide +kernel), PLI_fr q5 p1 (by decide +kernel) (by decide +kernel), by rw [p2]; exact q6, by rw [p1.2.1 52 (by decide +kernel)]; exact q7⟩
set_option maxHeartbeats 4000000 in
theorem L4_X12_whets {l : Launch} {V : Vx} {a1 : Int32} {a2 : Int32} {σ0 : Sg} {Qk : Int32 → Sg → Prop} (q : INV V σ0) (h9ret : ∀ (r : Int32) (σ' : Sg), INV V σ' → (Fr [74, 105, 106, 107, 108, 129, 131, 132, 134, 135, 136, 137] [1, 30, 33] σ0 σ') → ((gi σ' 74 1).toInt = (gi σ0 74 1).toInt) → (F_X12_whets a1 a2 σ0 = (r, σ')) → Qk r σ') : K_X12_whets l V a1 a2 σ0 Qk := by
  refine kF_X12_whets q.2.1 q.2.2.2.2.2.2.1 (fun r σ' p0 p1 p2 p3 => h9ret r σ' ?_ p1 p2 p3)
  refine INV_m p1 (by decide +kernel) q ?_
  obtain ⟨-, q1, q2, q3, q4, q5, q6, q7⟩ := q
  exact ⟨p0, by rw [p1.2.1 12 (by decide +kernel), p1.2.1 11 (by decide +kernel)]; exact q2, by rw [p1.2.1 50 (by decide +kernel), p1.2.1 11 (by decide +kernel)]; exact q3, PL_fr q4 p1 (by decide +kernel) (by decide +kernel), PLI_fr q5 p1 (by decide +kernel) (by decide +kernel), by rw [p2]; exact q6, by rw [p1.2.1 52 (by decide +kernel)]; exact q7⟩
set_option maxHeartbeats 4000000 in
theorem L4_X12_apart {l : Launch} {V : Vx} {a1 : Int32} {a2 : Int32} {σ0 : Sg} {Qk : Int32 → Sg → Prop} (q : INV V σ0) (h9ret : ∀ (r : Int32) (σ' : Sg), INV V σ' → (Fr [74, 105, 106, 107, 108, 129, 131, 132, 134, 135, 136, 137] [1, 28, 30, 33] σ0 σ') → ((gi σ' 74 1).toInt = (gi σ0 74 1).toInt) → (F_X12_apart a1 a2 σ0 = (r, σ')) → Qk r σ') : K_X12_apart l V a1 a2 σ0 Qk := by
  refine kF_X12_apart q.2.1 q.2.2.2.2.2.2.1 (fun r σ' p0 p1 p2 p3 => h9ret r σ' ?_ p1 p2 p3)
  refine INV_m p1 (by decide +kernel) q ?_
  obtain ⟨-, q1, q2, q3, q4, q5, q6, q7⟩ := q
  exact ⟨p0, by rw [p1.2.1 12 (by decide +kernel), p1.2.1 11 (by decide +kernel)]; exact q2, by rw [p1.2.1 50 (by decide +kernel), p1.2.1 11 (by decide +kernel)]; exact q3, PL_fr q4 p1 (by decide +kernel) (by decide +kernel), PLI_fr q5 p1 (by decide +kernel) (by decide +kernel), by rw [p2]; exact q6, by rw [p1.2.1 52 (by decide +kernel)]; exact q7⟩
set_option maxHeartbeats 4000000 in
theorem L4_X12_stop {l : Launch} {V : Vx} {a1 : Int32} {a2 : Int32} {a3 : Int32} {a4 : Int32} {σ0 : Sg} {Qk : Int32 → Sg → Prop} (q : INV V σ0) (h9ret : ∀ (r : Int32) (σ' : Sg), INV V σ' → (Fr [74, 105, 106, 107, 108, 129, 131, 132, 134, 135, 136, 137, 140] [1, 30, 33] σ0 σ') → ((gi σ' 74 1).toInt = (gi σ0 74 1).toInt) → (F_X12_stop a1 a2 a3 a4 σ0 = (r, σ')) → Qk r σ') : K_X12_stop l V a1 a2 a3 a4 σ0 Qk := by
  refine kF_X12_stop q.2.1 q.2.2.2.2.2.2.1 (fun r σ' p0 p1 p2 p3 => h9ret r σ' ?_ p1 p2 p3)
  refine INV_m p1 (by decide +kernel) q ?_
  obtain ⟨-, q1, q2, q3, q4, q5, q6, q7⟩ := q
  exact ⟨p0, by rw [p1.2.1 12 (by decide +kernel), p1.2.1 11 (by decide +kernel)]; exact q2, by rw [p1.2.1 50 (by decide +kernel), p1.2.1 11 (by decide +kernel)]; exact q3, PL_fr q4 p1 (by decide +kernel) (by decide +kernel), PLI_fr q5 p1 (by decide +kernel) (by decide +kernel), by rw [p2]; exact q6, by rw [p1.2.1 52 (by decide +kernel)]; exact q7⟩
set_option maxHeartbeats 4000000 in
theorem L4_X12_alone {l : Launch} {V : Vx} {a1 : Int32} {σ0 : Sg} {Qk : Int32 → Sg → Prop} (q : INV V σ0) (h9ret : ∀ (r : Int32) (σ' : Sg), INV V σ' → (Fr [74, 105, 106, 107, 108, 110, 129, 131, 132, 134, 135, 136, 137, 138] [1, 2, 30, 33] σ0 σ') → ((gi σ' 74 1).toInt = (gi σ0 74 1).toInt) → (CD σ0 σ' 110 110 6) → (F_X12_alone a1 σ0 = (r, σ')) → Qk r σ') : K_X12_alone l V a1 σ0 Qk := by
  refine kF_X12_alone q.2.1 q.2.2.2.2.2.2.1 (fun r σ' p0 p1 p2 p3 p4 => h9ret r σ' ?_ p1 p2 p3 p4)
  refine INV_m p1 (by decide +kernel) q ?_
  obtain ⟨-, q1, q2, q3, q4, q5, q6, q7⟩ := q
  exact ⟨p0, by rw [p1.2.1 12 (by decide +kernel), p1.2.1 11 (by decide +kernel)]; exact q2, by rw [p1.2.1 50 (by decide +kernel), p1.2.1 11 (by decide +kernel)]; exact q3, PL_cd q1 q4 p3 (by rw [p1.2.1 0 (by decide +kernel)]), PLI_fr q5 p1 (by decide +kernel) (by decide +kernel), by rw [p2]; exact q6, by rw [p1.2.1 52 (by decide +kernel)]; exact q7⟩
set_option maxHeartbeats 4000000 in
theorem L4_X12_rest {l : Launch} {V : Vx} {a1 : Int32} {a2 : Int32} {σ0 : Sg} {Qk : Int32 → Sg → Prop} (q : INV V σ0) (h9ret : ∀ (r : Int32) (σ' : Sg), INV V σ' → (Fr [74, 105, 106, 107, 108, 129, 131, 132, 134, 135, 136, 137] [1, 30, 33] σ0 σ') → ((gi σ' 74 1).toInt = (gi σ0 74 1).toInt) → (F_X12_rest a1 a2 σ0 = (r, σ')) → Qk r σ') : K_X12_rest l V a1 a2 σ0 Qk := by
  refine kF_X12_rest q.2.1 q.2.2.2.2.2.2.1 (fun r σ' p0 p1 p2 p3 => h9ret r σ' ?_ p1 p2 p3)
  refine INV_m p1 (by decide +kernel) q ?_
  obtain ⟨-, q1, q2, q3, q4, q5, q6, q7⟩ := q
  exact ⟨p0, by rw [p1.2.1 12 (by decide +kernel), p1.2.1 11 (by decide +kernel)]; exact q2, by rw [p1.2.1 50 (by decide +kernel), p1.2.1 11 (by decide +kernel)]; exact q3, PL_fr q4 p1 (by decide +kernel) (by decide +kernel), PLI_fr q5 p1 (by decide +kernel) (by decide +kernel), by rw [p2]; exact q6, by rw [p1.2.1 52 (by decide +kernel)]; exact q7⟩
set_option maxHeartbeats 4000000 in
theorem L4_X12_paused {l : Launch} {V : Vx} {a1 : Int32} {a2 : Int32} {σ0 : Sg} {Qk : Int32 → Sg → Prop} (q : INV V σ0) (h9ret : ∀ (r : Int32) (σ' : Sg), INV V σ' → (Fr [74, 105, 106, 107, 108, 129, 131, 132, 134, 135, 136, 137] [1, 30, 33] σ0 σ') → ((gi σ' 74 1).toInt = (gi σ0 74 1).toInt) → (F_X12_paused a1 a2 σ0 = (r, σ')) → Qk r σ') : K_X12_paused l V a1 a2 σ0 Qk := by
  refine kF_X12_paused q.2.1 q.2.2.2.2.2.2.1 (fun r σ' p0 p1 p2 p3 => h9ret r σ' ?_ p1 p2 p3)
  refine INV_m p1 (by decide +kernel) q ?_
  obtain ⟨-, q1, q2, q3, q4, q5, q6, q7⟩ := q
  exact ⟨p0, by rw [p1.2.1 12 (by decide +kernel), p1.2.1 11 (by decide +kernel)]; exact q2, by rw [p1.2.1 50 (by decide +kernel), p1.2.1 11 (by decide +kernel)]; exact q3, PL_fr q4 p1 (by decide +kernel) (by decide +kernel), PLI_fr q5 p1 (by decide +kernel) (by decide +kernel), by rw [p2]; exact q6, by rw [p1.2.1 52 (by decide +kernel)]; exact q7⟩
set_option maxHeartbeats 4000000 in
theorem L4_X12_who {l : Launch} {V : Vx} {σ0 : Sg} {Qk : Int32 → Sg → Prop} (q : INV V σ0) (h9ret : ∀ (r : Int32) (σ' : Sg), INV V σ' → (Fr [74, 105, 106, 107, 108, 129, 131, 132, 134, 135, 136, 137] [1, 30, 33] σ0 σ') → ((gi σ' 74 1).toInt = (gi σ0 74 1).toInt) → (F_X12_who σ0 = (r, σ')) → Qk r σ') : K_X12_who l V σ0 Qk := by
  refine kF_X12_who q.2.1 q.2.2.2.2.2.2.1 (fun r σ' p0 p1 p2 p3 => h9ret r σ' ?_ p1 p2 p3)
  refine INV_m p1 (by decide +kernel) q ?_
  obtain ⟨-, q1, q2, q3, q4, q5, q6, q7⟩ := q
  exact ⟨p0, by rw [p1.2.1 12 (by decide +kernel), p1.2.1 11 (by decide +kernel)]; exact q2, by rw [p1.2.1 50 (by decide +kernel), p1.2.1 11 (by decide +kernel)]; exact q3, PL_fr q4 p1 (by decide +kernel) (by decide +kernel), PLI_fr q5 p1 (by decide +kernel) (by decide +kernel), by rw [p2]; exact q6, by rw [p1.2.1 52 (by decide +kernel)]; exact q7⟩
set_option maxHeartbeats 4000000 in
theorem L4_X12_odds {l : Launch} {V : Vx} {a1 : Int32} {a2 : Int32} {a3 : Int32} {σ0 : Sg} {Qk : Int64 → Sg → Prop} (q : INV V σ0) (h9ret : ∀ (r : Int64) (σ' : Sg), INV V σ' → (Fr [74, 105, 106, 107, 108, 129, 131, 132, 134, 135, 136, 137] [1, 30, 33] σ0 σ') → ((gi σ' 74 1).toInt = (gi σ0 74 1).toInt) → (F_X12_odds a1 a2 a3 σ0 = (r, σ')) → Qk r σ') : K_X12_odds l V a1 a2 a3 σ0 Qk := by
  refine kF_X12_odds q.2.1 q.2.2.2.2.2.2.1 (fun r σ' p0 p1 p2 p3 => h9ret r σ' ?_ p1 p2 p3)
  refine INV_m p1 (by decide +kernel) q ?_
  obtain ⟨-, q1, q2, q3, q4, q5, q6, q7⟩ := q
  exact ⟨p0, by rw [p1.2.1 12 (by decide +kernel), p1.2.1 11 (by decide +kernel)]; exact q2, by rw [p1.2.1 50 (by decide +kernel), p1.2.1 11 (by decide +kernel)]; exact q3, PL_fr q4 p1 (by decide +kernel) (by decide +kernel), PLI_fr q5 p1 (by decide +kernel) (by decide +kernel), by rw [p2]; exact q6, by rw [p1.2.1 52 (by decide +kernel)]; exact q7⟩
set_option maxHeartbeats 4000000 in
theorem L4_X12_mean {l : Launch} {V : Vx} {a1 : Int32} {a2 : Int32} {σ0 : Sg} {Qk : Int64 → Sg → Prop} (q : INV V σ0) (h9ret : ∀ (r : Int64) (σ' : Sg), INV V σ' → (Fr [74, 105, 106, 107, 108, 129, 131, 132, 134, 135, 136, 137] [1, 30, 33] σ0 σ') → ((gi σ' 74 1).toInt = (gi σ0 74 1).toInt) → (F_X12_mean a1 a2 σ0 = (r, σ')) → Qk r σ') : K_X12_mean l V a1 a2 σ0 Qk := by
  refine kF_X12_mean q.2.1 q.2.2.2.2.2.2.1 (fun r σ' p0 p1 p2 p3 => h9ret r σ' ?_ p1 p2 p3)
  refine INV_m p1 (by decide +kernel) q ?_
  obtain ⟨-, q1, q2, q3, q4, q5, q6, q7⟩ := q
  exact ⟨p0, by rw [p1.2.1 12 (by decide +kernel), p1.2.1 11 (by decide +kernel)]; exact q2, by rw [p1.2.1 50 (by decide +kernel), p1.2.1 11 (by decide +kernel)]; exact q3, PL_fr q4 p1 (by decide +kernel) (by decide +kernel), PLI_fr q5 p1 (by decide +kernel) (by decide +kernel), by rw [p2]; exact q6, by rw [p1.2.1 52 (by decide +kernel)]; exact q7⟩
set_option maxHeartbeats 4000000 in
theorem L4_X12_planned {l : Launch} {V : Vx} {σ0 : Sg} {Qk : Int32 → Sg → Prop} (q : INV V σ0) (h9ret : ∀ (r : Int32) (σ' : Sg), INV V σ' → (Fr [74, 105, 106, 107, 108, 129, 131, 132, 134, 135, 136, 137] [1, 30, 33] σ0 σ') → ((gi σ' 74 1).toInt = (gi σ0 74 1).toInt) → (F_X12_planned σ0 = (r, σ')) → Qk r σ') : K_X12_planned l V σ0 Qk := by
  refine kF_X12_planned q.2.1 q.2.2.2.2.2.2.1 (fun r σ' p0 p1 p2 p3 => h9ret r σ' ?_ p1 p2 p3)
  refine INV_m p1 (by decide +kernel) q ?_
  obtain ⟨-, q1, q2, q3, q4, q5, q6, q7⟩ := q
  exact ⟨p0, by rw [p1.2.1 12 (by decide +kernel), p1.2.1 11 (by decide +kernel)]; exact q2, by rw [p1.2.1 50 (by decide +kernel), p1.2.1 11 (by decide +kernel)]; exact q3, PL_fr q4 p1 (by decide +kernel) (by decide +kernel), PLI_fr q5 p1 (by decide +kernel) (by decide +kernel), by rw [p2]; exact q6, by rw [p1.2.1 52 (by decide +kernel)]; exact q7⟩
set_option maxHeartbeats 4000000 in
theorem L4_X12_looked {l : Launch} {V : Vx} {σ0 : Sg} {Qk : Int32 → Sg → Prop} (q : INV V σ0) (h9ret : ∀ (r : Int32) (σ' : Sg), INV V σ' → (Fr [74, 105, 106, 107, 108, 129, 131, 132, 134, 135, 136, 137] [1, 30, 33] σ0 σ') → ((gi σ' 74 1).toInt = (gi σ0 74 1).toInt) → (F_X12_looked σ0 = (r, σ')) → Qk r σ') : K_X12_looked l V σ0 Qk := by
  refine kF_X12_looked q.2.1 q.2.2.2.2.2.2.1 (fun r σ' p0 p1 p2 p3 => h9ret r σ' ?_ p1 p2 p3)
  refine INV_m p1 (by decide +kernel) q ?_
  obtain ⟨-, q1, q2, q3, q4, q5, q6, q7⟩ := q
  exact ⟨p0, by rw [p1.2.1 12 (by decide +kernel), p1.2.1 11 (by decide +kernel)]; exact q2, by rw [p1.2.1 50 (by decide +kernel), p1.2.1 11 (by decide +kernel)]; exact q3, PL_fr q4 p1 (by decide +kernel) (by decide +kernel), PLI_fr q5 p1 (by decide +kernel) (by decide +kernel), by rw [p2]; exact q6, by rw [p1.2.1 52 (by decide +kernel)]; exact q7⟩
set_option maxHeartbeats 4000000 in
theorem L4_X12_judge {l : Launch} {V : Vx} {a1 : Int32} {a2 : Int32} {σ0 : Sg} {Qk : Int32 → Sg → Prop} (q : INV V σ0) (h9ret : ∀ (r : Int32) (σ' : Sg), INV V σ' → (Fr [] [] σ0 σ') → (F_X12_judge a1 a2 σ0 = (r, σ')) → Qk r σ') : K_X12_judge l V a1 a2 σ0 Qk := by
  refine kF_X12_judge q.2.1 (fun r σ' p0 p1 p2 => h9ret r σ' ?_ p1 p2)
  refine INV_m p1 (by decide +kernel) q ?_
  obtain ⟨-, q1, q2, q3, q4, q5, q6, q7⟩ := q
  exact ⟨p0, by rw [p1.2.1 12 (by decide +kernel), p1.2.1 11 (by decide +kernel)]; exact q2, by rw [p1.2.1 50 (by decide +kernel), p1.2.1 11 (by decide +kernel)]; exact q3, PL_fr q4 p1 (by decide +kernel) (by decide +kernel), PLI_fr q5 p1 (by decide +kernel) (by decide +kernel), by rw [p1.2.1 1 (by decide +kernel)]; exact q6, by rw [p1.2.1 52 (by decide +kernel)]; exact q7⟩
/-! both states alike, the minutes too -/
noncomputable def RELM (σ : Sg) : Prop := RELF σ ∧ MN σ
theorem MN_ord {σ σ1 : Sg} (mn : MN σ) (f : Fr [74, 105, 106, 107, 108, 110, 129, 131, 132, 134, 135, 136, 137, 138, 139] [1, 30, 33] σ σ1) (r : RWS σ σ1) : MN σ1 := by
  obtain ⟨⟨b1, b2, b3, b4, b5, b6, b7⟩, bi, E1, E2, m2, m28, m11, m17⟩ := mn
  have g : ∀ id k, id ∉ [74, 105, 106, 107, 108, 110, 129, 131, 132, 134, 135, 136, 137, 138, 139] → gi σ1 id k = gi σ id k := fun id k h => congrFun (f.1 id h).1 k
  refine ⟨⟨BR_eq (fun k _ => g 103 k (by decide +kernel)) b1, BR_eq (fun k _ => g 104 k (by decide +kernel)) b2, BR_eq (fun k hk => r 105 k (by decide +kernel) (by decide +kernel) hk) b3, BR_eq (fun k hk => r 106 k (by decide +kernel) (by decide +kernel) hk) b4, BR_eq (fun k hk => r 107 k (by decide +kernel) (by decide +kernel) hk) b5, BR_eq (fun k hk => r 108 k (by decide +kernel) (by decide +kernel) hk) b6, BR_eq (fun k _ => g 109 k (by decide +kernel)) b7⟩, BIM_eq (fun id k a b c => g id k (by simp; omega)) bi, fun m hm => ?_, EQN_eq (by rw [g 17 1 (by decide +kernel)]) (fun id k a => g id k (by simp; omega)) E2, by rw [f.2.1 2 (by decide +kernel), f.2.1 0 (by decide +kernel)]; exact m2, by rw [f.2.1 28 (by decide +kernel)]; exact m28, by rw [g 1 11 (by decide +kernel)]; exact m11, by rw [g 17 11 (by decide +kernel)]; exact m17⟩
  rw [g 1 1 (by decide +kernel), g (1 + 3) m (by decide +kernel), g (1 + 4) m (by decide +kernel), g (1 + 5) m (by decide +kernel), g (1 + 6) m (by decide +kernel), r 105 m (by decide +kernel) (by decide +kernel) hm, r (105 + 1) m (by decide +kernel) (by decide +kernel) hm, r (105 + 2) m (by decide +kernel) (by decide +kernel) hm, r (105 + 3) m (by decide +kernel) (by decide +kernel) hm]
  exact E1 m hm
theorem Z_on {n : Nat} {K : Int} {S : Stc} {D : Dyn} {σ σ' : Sg} {a1 a2 r : Int32} (h : HMo n K S D σ) (e : F_X12_on a1 a2 σ = (r, σ')) : FXz σ σ' := by
  have z := Rt_of (onM (a1 := a1) (a2 := a2) h) e
  exact z.2
theorem Z_done {n : Nat} {K : Int} {S : Stc} {D : Dyn} {σ σ' : Sg} {r : Int32} (h : HMo n K S D σ) (e : F_X12_done σ = (r, σ')) : FXz σ σ' := by
  have z := Rt_of (doneM h) e
  exact z.2
theorem Z_whets {n : Nat} {K : Int} {S : Stc} {D : Dyn} {σ σ' : Sg} {a1 a2 r : Int32} (h : HMo n K S D σ) (e : F_X12_whets a1 a2 σ = (r, σ')) : FXz σ σ' := by
  have z := Rt_of (whetsM (a1 := a1) (a2 := a2) h) e
  exact z.2
theorem Z_apart {n : Nat} {K : Int} {S : Stc} {D : Dyn} {σ σ' : Sg} {a1 a2 r : Int32} (h : HMo n K S D σ) (h28 : gi σ 74 28 = (-1 : Int32)) (e : F_X12_apart a1 a2 σ = (r, σ')) : FXz σ σ' := by
  have z := Rt_of (apartM (a1 := a1) (a2 := a2) h h28) e
  exact z.2
theorem Z_rest {n : Nat} {K : Int} {S : Stc} {D : Dyn} {σ σ' : Sg} {a1 a2 r : Int32} (h : HMo n K S D σ) (e : F_X12_rest a1 a2 σ = (r, σ')) : FXz σ σ' := by
  have z := Rt_of (restM (a1 := a1) (a2 := a2) h) e
  exact z.2
theorem Z_paused {n : Nat} {K : Int} {S : Stc} {D : Dyn} {σ σ' : Sg} {a1 a2 r : Int32} (h : HMo n K S D σ) (e : F_X12_paused a1 a2 σ = (r, σ')) : FXz σ σ' := by
  have z := Rt_of (pausedM (a1 := a1) (a2 := a2) h) e
  exact z.2
theorem Z_stop {n : Nat} {K : Int} {S : Stc} {D : Dyn} {σ σ' : Sg} {a1 a2 a3 a4 r : Int32} (h : HMo n K S D σ) (e : F_X12_stop a1 a2 a3 a4 σ = (r, σ')) : FXz σ σ' := by
  have z := Rt_of (stopM (a1 := a1) (a2 := a2) (a3 := a3) (a4 := a4) h) e
  exact z.2
theorem Z_alone {n : Nat} {K : Int} {S : Stc} {D : Dyn} {σ σ' : Sg} {a1 r : Int32} (h : HMo n K S D σ) (e : F_X12_alone a1 σ = (r, σ')) : FXz σ σ' := by
  have z := Rt_of (aloneM (a1 := a1) h) e
  exact z.2
theorem Z_looked {n : Nat} {K : Int} {S : Stc} {D : Dyn} {σ σ' : Sg} {r : Int32} (h : HMo n K S D σ) (e : F_X12_looked σ = (r, σ')) : FXz σ σ' := by
  have z := Rt_of (lookedM h) e
  exact z
theorem Z_odds {n : Nat} {K : Int} {S : Stc} {D : Dyn} {σ σ' : Sg} {a1 a2 a3 : Int32} {r : Int64} (h : HMo n K S D σ) (e : F_X12_odds a1 a2 a3 σ = (r, σ')) : FXz σ σ' := by
  have z := Rt_of (oddsM (a1 := a1) (a2 := a2) (a3 := a3) h) e
  exact z.2
theorem Z_mean {n : Nat} {K : Int} {S : Stc} {D : Dyn} {σ σ' : Sg} {a1 a2 : Int32} {r : Int64} (h : HMo n K S D σ) (e : F_X12_mean a1 a2 σ = (r, σ')) : FXz σ σ' := by
  have z := Rt_of (meanM (a1 := a1) (a2 := a2) h) e
  exact z.2
theorem Z_planned {n : Nat} {K : Int} {S : Stc} {D : Dyn} {σ0 σ σ' : Sg} {r : Int32} (m0 : MI σ0) (f : MA σ0 σ) (h : HMo n K S D σ) (e : F_X12_planned σ = (r, σ')) : FXz σ σ' := by
  have b := MI_f45 m0
  have e45 : gi σ 74 45 = gi σ0 74 45 := f 74 (by decide +kernel) (by decide +kernel) 45
  have z := Rt_of (plannedM (P := (gi σ 74 45).toInt.toNat) (f := fun k => (gi σ 147 k).toInt) h (by rw [e45]; omega) (by rw [e45]; omega) (fun k _ => rfl)) e
  exact z.2
theorem Z_who {n : Nat} {K : Int} {S : Stc} {D : Dyn} {σ0 σ σ' : Sg} {r : Int32} (m0 : MI σ0) (f : MA σ0 σ) (h : HMo n K S D σ) (e : F_X12_who σ = (r, σ')) : FXz σ σ' := by
  have b := MI_f41 m0
  have e41 : gi σ 74 41 = gi σ0 74 41 := f 74 (by decide +kernel) (by decide +kernel) 41
  have t : ∀ k, k < 6 → 0 ≤ (gi σ 143 k).toInt ∧ (gi σ 143 k).toInt ≤ 30 := fun k hk => by
    rw [f 143 (by decide +kernel) (by decide +kernel) k]
    exact m0.2.1.2.2.2.2.2.2.2.2.2.2.1 k hk
  have z := Rt_of (whoZ h (by rw [e41]; omega) t) e
  exact z
/-! what the class answers: on, done -/
theorem noSurj : ∀ (n : Nat) (f : Nat → Nat), ¬ ∀ m, m < n + 1 → ∃ k, k < n ∧ f k = m := by
  intro n
  induction n with
  | zero => intro f h; obtain ⟨k, hk, -⟩ := h 0 (by decide +kernel); exact absurd hk (Nat.not_lt_zero k)
  | succ n ih =>
    intro f h
    obtain ⟨k0, h0, e0⟩ := h (n + 1) (by omega)
    refine ih (fun k => if k < k0 then f k else f (k + 1)) (fun m hm => ?_)
    obtain ⟨k, hk, e⟩ := h m (by omega)
    have ne : k ≠ k0 := fun z => by subst z; omega
    by_cases c : k < k0
    · exact ⟨k, by omega, by show (if k < k0 then f k else f (k + 1)) = m; rw [if_pos c]; exact e⟩
    · refine ⟨k - 1, by omega, ?_⟩
      show (if k - 1 < k0 then f (k - 1) else f (k - 1 + 1)) = m
      rw [if_neg (by omega), show k - 1 + 1 = k from by omega]; exact e
theorem surj_inj {n : Nat} {f : Nat → Nat} (h : ∀ m, m < n → ∃ k, k < n ∧ f k = m) {p q : Nat} (hp : p < n) (hq : q < n) (e : f p = f q) : p = q := by
  by_cases ne : p = q
  · exact ne
  exfalso
  obtain ⟨n, rfl⟩ : ∃ i, n = i + 1 := ⟨n - 1, by omega⟩
  refine noSurj n (fun k => if k < q then f k else f (k + 1)) (fun m hm => ?_)
  obtain ⟨k, hk, e2⟩ := h m hm
  have go : ∀ k, k < n + 1 → k ≠ q → f k = m → ∃ i, i < n ∧ (if i < q then f i else f (i + 1)) = m := by
    intro k hk hkq e
    by_cases c : k < q
    · exact ⟨k, by omega, by rw [if_pos c]; exact e⟩
    · refine ⟨k - 1, by omega, ?_⟩
      rw [if_neg (by omega), show k - 1 + 1 = k from by omega]; exact e
  by_cases c : k = q
  · exact go p hp ne (by rw [e, ← c]; exact e2)
  · exact go k hk c e2
noncomputable def SInj (S : Stc) : Prop := ∀ p q, p < S_r S → q < S_r S → S_ln S p = S_ln S q → p = q
/-! bits -/
theorem bT1 : ∀ a, a < 64 → ∀ m, m < 6 → (Int32.ofNat a ||| ((1 : Int32) <<< (nI m &&& 31))) = Int32.ofNat (a ||| 2 ^ m) ∧ (a ||| 2 ^ m) < 64 := by decide +kernel
theorem bT2 : ∀ a, a < 64 → ∀ m, m < 6 → ((Int32.ofNat a >>> (nI m &&& 31)) &&& (1 : Int32)) = Int32.ofNat (a / 2 ^ m % 2) := by decide +kernel
theorem bT3 : ∀ a, a < 64 → ∀ m, m < 6 → ∀ j, j < 6 → (a ||| 2 ^ m) / 2 ^ j % 2 = if j = m then 1 else a / 2 ^ j % 2 := by decide +kernel
theorem hs_fold : ∀ (l : List Nat) (a : Nat), a < 64 → (∀ x ∈ l, x < 6) → ∃ b, b < 64 ∧ l.foldl (fun x m => x ||| ((1 : Int32) <<< ((nI m) &&& 31))) (Int32.ofNat a) = Int32.ofNat b ∧ ∀ j, j < 6 → b / 2 ^ j % 2 = if hc l j = 0 then a / 2 ^ j % 2 else 1 := by
  intro l
  induction l with
  | nil => intro a ha _; exact ⟨a, ha, rfl, fun j _ => by rw [if_pos (show hc [] j = 0 from rfl)]⟩
  | cons m l ih =>
    intro a ha hl
    have hm := hl m List.mem_cons_self
    obtain ⟨t1, t2⟩ := bT1 a ha m hm
    obtain ⟨b, b1, b2, b3⟩ := ih (a ||| 2 ^ m) t2 (fun x hx => hl x (List.mem_cons_of_mem _ hx))
    refine ⟨b, b1, by rw [List.foldl_cons, t1]; exact b2, fun j hj => ?_⟩
    have h0 := (hc_b (m := j) l).1
    rw [b3 j hj, bT3 a ha m hm j hj, show hc (m :: l) j = (if m = j then 1 else 0) + hc l j from rfl]
    by_cases e : m = j
    · subst e
      rw [if_pos rfl, if_pos rfl, if_neg (show ¬ (1 + hc l m = 0) by omega)]
      split <;> rfl
    · rw [if_neg (show ¬ j = m from fun z => e z.symm), if_neg e, show (0 : Int) + hc l j = hc l j from by omega]
theorem hs_bit {l : List Nat} {j : Nat} (hl : ∀ x ∈ l, x < 6) (h1 : hc l j ≤ 1) (hj : j < 6) : (((hset l) >>> (nI j &&& 31)) &&& (1 : Int32)).toInt = hc l j := by
  obtain ⟨b, b1, b2, b3⟩ := hs_fold l 0 (by decide +kernel) hl
  have e : hset l = Int32.ofNat b := b2
  have h0 := (hc_b (m := j) l).1
  rw [e, bT2 b b1 j hj, b3 j hj]
  by_cases c : hc l j = 0
  · rw [if_pos c, c, show 0 / 2 ^ j % 2 = 0 from by rw [Nat.zero_div]]; rfl
  · rw [if_neg c, show hc l j = 1 from by omega]; rfl
theorem aGos_hc {n : Nat} {S : Stc} {st : Nat → Int} (sb : SBd n S) (si : SInj S) : ∀ (k p : Nat) (l : List Nat) (D : Dyn), p + k = S_r S → (∀ x ∈ l, x < n) → (∀ m, hc l m ≤ 1) → (∀ q, p ≤ q → q < S_r S → hc l (S_ln S q) = 0) → (∀ x ∈ (aGos S st k p l D).1, x < n) ∧ ∀ m, hc (aGos S st k p l D).1 m ≤ 1 := by
  intro k
  induction k with
  | zero => intro p l D _ h1 h2 _; exact ⟨h1, h2⟩
  | succ k ih =>
    intro p l D hp h1 h2 h3
    show (∀ x ∈ (aGos S st k (p + 1) (if aHd S (st p) D p = true then l ++ [S_ln S p] else l) (aGo S (st p) D p)).1, x < n) ∧ ∀ m, hc (aGos S st k (p + 1) (if aHd S (st p) D p = true then l ++ [S_ln S p] else l) (aGo S (st p) D p)).1 m ≤ 1
    by_cases c : aHd S (st p) D p = true
    · rw [if_pos c]
      refine ih (p + 1) _ _ (by omega) (fun x hx => ?_) (fun m => ?_) (fun q hq hq2 => ?_)
      · rcases List.mem_append.mp hx with h | h
        · exact h1 x h
        · rw [List.mem_singleton.mp h]; exact sb.2.2.1 p (by omega)
      · rw [hc_ap]
        by_cases e : S_ln S p = m
        · have := h3 p (Nat.le_refl p) (by omega)
          rw [if_pos e, ← e, this]; decide
        · rw [if_neg e]; have := h2 m; omega
      · rw [hc_ap, if_neg (fun z => by have := si p q (by omega) hq2 z; omega), h3 q (by omega) hq2]; rfl
    · rw [if_neg c]
      exact ih (p + 1) _ _ (by omega) h1 h2 (fun q hq hq2 => h3 q (by omega) hq2)
theorem aMin_bit {n m : Nat} {S : Stc} {D : Dyn} (sb : SBd n S) (si : SInj S) (hm : m < n) : (((hset (aMin S D).1) >>> (nI m &&& 31)) &&& (1 : Int32)).toInt = hc (aMin S D).1 m := by
  have h := aGos_hc (st := aSt S D) sb si (S_r S) 0 [] D (by omega) (fun x hx => absurd hx List.not_mem_nil) (fun _ => by show (0 : Int) ≤ 1; decide) (fun _ _ _ => rfl)
  have n6 := sb.1
  exact hs_bit (fun x hx => by have := h.1 x hx; omega) (h.2 m) (by omega)
theorem hlLC {n m : Nat} {S : Stc} (sb : SBd n S) (si : SInj S) (hm : m < n) {x1 : Int32} (h1 : x1 = nI m) : ∀ (j N : Nat) (x2 x3 x4 : Int32) (b : Int) (D : Dyn) (K : Int) (σ : Sg), x2.toInt = x4.toInt + (j : Int) → j < N → x2.toInt ≤ 1000 → 0 ≤ x4.toInt → x3.toInt = b → 0 ≤ b ∧ b ≤ x4.toInt → K + (j : Int) ≤ 200000 → DBd n K D → CS 33 n S σ → CDy 33 n D σ →
    Rt (LF_X11_heldTimes N x1 x2 x3 x4 σ) (fun r σ' => r.toInt = b + aHel S j D m ∧ FXv σ σ') := by
  intro j
  induction j with
  | zero =>
    intro N x2 x3 x4 b D K σ h hN hx h4 h3 hb hK db cs cd
    obtain ⟨N, rfl⟩ : ∃ i, N = i + 1 := ⟨N - 1, by omega⟩
    show Rt (LB_X11_heldTimes_5 (LF_X11_heldTimes N) x1 x2 x3 x4 σ) (fun r σ' => r.toInt = b + 0 ∧ FXv σ σ')
    unfold LB_X11_heldTimes_5
    exact Rt_t (i_le (by omega)) (Rt_p ⟨by omega, FXv_rf⟩)
  | succ j ih =>
    intro N x2 x3 x4 b D K σ h hN hx h4 h3 hb hK db cs cd
    obtain ⟨N, rfl⟩ : ∃ i, N = i + 1 := ⟨N - 1, by omega⟩
    show Rt (LB_X11_heldTimes_5 (LF_X11_heldTimes N) x1 x2 x3 x4 σ) (fun r σ' => r.toInt = b + (hc (aMin S D).1 m + aHel S j (aMin S D).2 m) ∧ FXv σ σ')
    unfold LB_X11_heldTimes_5
    refine Rt_f (i_nle (by omega)) ?_
    refine Rt_fb (minC (c0 := 33) (by decide +kernel) sb db (by omega) cs cd) (fun r3 σ2 ⟨e1, e2, e3⟩ => ?_)
    have bt := aMin_bit (D := D) sb si hm
    have h0 := (hc_b (m := m) (aMin S D).1).1
    have h9 := (aGos_hc (st := aSt S D) sb si (S_r S) 0 [] D (by omega) (fun x hx => absurd hx List.not_mem_nil) (fun _ => by show (0 : Int) ≤ 1; decide) (fun _ _ _ => rfl)).2 m
    have h9 : hc (aMin S D).1 m ≤ 1 := h9
    rw [e1, h1]
    refine Rt_fl (fun v4 ev => Rt_fl (fun v5 ev5 => ?_))
    have v4i : v4.toInt = b + hc (aMin S D).1 m := by rw [ev, i_add (by omega) (by omega), bt, h3]
    have v5i : v5.toInt = x4.toInt + 1 := by rw [ev5, i_inc (by omega)]
    rw [← h1]
    exact Rt_w (ih N x2 v4 v5 _ _ (K + 1) σ2 (by omega) (by omega) hx (by omega) v4i (by omega) (by omega) (aMin_b sb db) (CS_m (by decide +kernel) e3 cs) e2) (fun r σ' q => ⟨by rw [q.1]; omega, FXv_tr (FXn_v e3) q.2⟩)
/-- the class's state, known -/
noncomputable def HCl (n : Nat) (K : Int) (S : Stc) (D : Dyn) (σ : Sg) : Prop := SBd n S ∧ DBd n K D ∧ K ≤ 20000 ∧ S_r S = n ∧ (∀ m, m < n → D_st D m ≤ 99) ∧ CS 1 n S σ ∧ CDy 1 n D σ
theorem HCl_v {n : Nat} {K : Int} {S : Stc} {D : Dyn} {σ σ' : Sg} (f : FXv σ σ') (h : HCl n K S D σ) : HCl n K S D σ' := ⟨h.1, h.2.1, h.2.2.1, h.2.2.2.1, h.2.2.2.2.1, CS_v f h.2.2.2.2.2.1, CDy_v f h.2.2.2.2.2.2⟩
theorem HCl_bec {n : Nat} {K : Int} {S : Stc} {D : Dyn} {σ : Sg} (h : HCl n K S D σ) : Ru (F_X1_becomes 33 1 σ) (fun σ' => CS 33 n S σ' ∧ CDy 33 n D σ' ∧ FXv σ σ') := becC h.1.1 h.1.2.1 h.2.2.2.2.2.1 h.2.2.2.2.2.2
theorem isMC {n : Nat} {a : Int32} {σ : Sg} (hn : (gi σ 1 1).toInt = (n : Int)) : F_X11_isMower a σ = (if 0 ≤ a.toInt ∧ a.toInt < (n : Int) then (1 : Int32) else 0, σ) := by rw [F_isMower, hn]
theorem i_sb {x c : Int32} {k : Int} (hc : c.toInt = k) (h1 : -2147483648 ≤ x.toInt - k) (h2 : x.toInt - k ≤ 2147483647) : (x - c).toInt = x.toInt - k := by rw [i_sub (by omega) (by omega), hc]
theorem on62C {n : Nat} {K : Int} {S : Stc} {D : Dyn} {σ : Sg} {a1 a2 x3 x4 : Int32} (h : HCl n K S D σ) (si : SInj S) (N : Nat) (c : (a2.toInt = 0 ∧ x3 = 0 ∧ x4 = 0) ∨ ((10 ≤ a2.toInt ∧ a2.toInt ≤ 9 + (n : Int)) ∧ x3 = 1 ∧ x4 = 0) ∨ ((20 ≤ a2.toInt ∧ a2.toInt ≤ 19 + (n : Int)) ∧ x3 = 0 ∧ x4 = 1)) :
    Rt (LF_X11_on (N + 1) 2 a1 a2 0 x3 x4 σ) (fun r _ => r.toInt = r_on n S D a1.toInt a2.toInt) := by
  obtain ⟨sb, db, hK, hr, h99, cs, cd⟩ := id h
  have n6 := sb.1
  show Rt (LB_X11_on_62 (LF_X11_on N) a1 a2 x3 x4 σ) _
  unfold LB_X11_on_62
  have cc : a2.toInt = 0 ∨ (10 ≤ a2.toInt ∧ a2.toInt ≤ 9 + (n : Int)) ∨ (20 ≤ a2.toInt ∧ a2.toInt ≤ 19 + (n : Int)) := by
    rcases c with z | z | z
    · exact Or.inl z.1
    · exact Or.inr (Or.inl z.1)
    · exact Or.inr (Or.inr z.1)
  by_cases d0 : a1.toInt < 0
  · refine Rt_t (i_lt0 d0) ?_
    show (-2 : Int32).toInt = r_on n S D a1.toInt a2.toInt
    unfold r_on
    rw [if_pos cc, if_neg (by omega)]; rfl
  refine Rt_f (i_nlt0 (by omega)) ?_
  by_cases d1 : a1.toInt ≤ 60
  · refine Rt_t (i_le (show _ ≤ (60 : Int) from d1)) ?_
    obtain ⟨j, hj⟩ : ∃ j : Nat, a1.toInt = (j : Int) := ⟨a1.toInt.toNat, by omega⟩
    have ev : r_on n S D a1.toInt a2.toInt = (if a2.toInt = 0 then tot n (aMins S j D) else if 20 ≤ a2.toInt then aHel S j D (a2.toInt - 20).toNat else D_at (aMins S j D) (a2.toInt - 10).toNat) := by
      unfold r_on
      rw [if_pos cc, if_pos (by omega), hj, show ((j : Int)).toNat = j from by omega]
    rw [ev]
    refine Rt_fs (HCl_bec h) (fun σ3 ⟨s3, d3, f3⟩ => ?_)
    rcases c with ⟨c1, c2, c3⟩ | ⟨c1, c2, c3⟩ | ⟨c1, c2, c3⟩
    · rw [if_pos c1]
      refine Rt_t c3 ?_
      refine Rt_fs (gosC9 (c0 := 33) (by decide +kernel) sb hj (by omega) (by omega) db s3 d3) (fun σ5 ⟨d5, f5⟩ => ?_)
      refine Rt_t c2 ?_
      obtain ⟨r, e, v⟩ := allC n6 (CS_m (by decide +kernel) f5 s3).1 (aMins_b sb j D K db) d5
      refine Rt_fe e ?_
      exact v
    · rw [if_neg (show ¬ a2.toInt = 0 by omega), if_neg (show ¬ 20 ≤ a2.toInt by omega)]
      refine Rt_t c3 ?_
      refine Rt_fs (gosC9 (c0 := 33) (by decide +kernel) sb hj (by omega) (by omega) db s3 d3) (fun σ5 ⟨d5, f5⟩ => ?_)
      refine Rt_f (by rw [c2]; decide) ?_
      have x1 : (a2 - (10 : Int32)).toInt = a2.toInt - 10 := i_sb rfl (by omega) (by omega)
      have ex := cl_eq (x := a2 - (10 : Int32)) (by omega)
      rw [show (a2 - (10 : Int32)).toNatClampNeg = (a2.toInt - 10).toNat from by omega]
      exact d5.2.1 _ (by omega)
    · rw [if_neg (show ¬ a2.toInt = 0 by omega), if_pos (show 20 ≤ a2.toInt by omega)]
      refine Rt_f (by rw [c3]; decide) ?_
      have x1 : (a2 - (20 : Int32)).toInt = a2.toInt - 20 := i_sb rfl (by omega) (by omega)
      have ex := cl_eq (x := a2 - (20 : Int32)) (by omega)
      have em : a2 - (20 : Int32) = nI (a2.toInt - 20).toNat := by rw [show (a2.toInt - 20).toNat = (a2 - (20 : Int32)).toNatClampNeg from by omega]; exact nI_ofI (by omega)
      have H : Rt (F_X11_heldTimes (a2 - (20 : Int32)) a1 σ3) (fun r _ => r.toInt = aHel S j D (a2.toInt - 20).toNat) := by
        unfold F_X11_heldTimes
        exact Rt_w (hlLC sb si (m := (a2.toInt - 20).toNat) (by omega) em j 90 a1 (0 : Int32) (0 : Int32) 0 D K σ3 (by rw [hj]; show _ = (0 : Int) + _; omega) (by omega) (by omega) (by decide +kernel) rfl (by decide +kernel) (by omega) db s3 d3) (fun r σ' q => q.1.trans (Int.zero_add _))
      refine Rt_fb H (fun r s e => ?_)
      exact e
  · refine Rt_f (i_nle (show (60 : Int) < _ by omega)) ?_
    show (-2 : Int32).toInt = r_on n S D a1.toInt a2.toInt
    unfold r_on
    rw [if_pos cc, if_neg (by omega)]; rfl
theorem onC {n : Nat} {K : Int} {S : Stc} {D : Dyn} {σ : Sg} {a1 a2 : Int32} (h : HCl n K S D σ) (si : SInj S) : Rt (F_X11_on a1 a2 σ) (fun r _ => r.toInt = r_on n S D a1.toInt a2.toInt) := by
  have n6 := h.1.1
  have hn := h.2.2.2.2.2.1.1
  have w1 := Int32.toInt_lt a2
  have none : ¬ (a2.toInt = 0 ∨ (10 ≤ a2.toInt ∧ a2.toInt ≤ 9 + (n : Int)) ∨ (20 ≤ a2.toInt ∧ a2.toInt ≤ 19 + (n : Int))) → (-1 : Int32).toInt = r_on n S D a1.toInt a2.toInt := fun c => by
    unfold r_on
    rw [if_neg c]; rfl
  unfold F_X11_on
  have L22 : ∀ z0 : Int32, ((z0 = 0 ∧ ¬ (10 ≤ a2.toInt ∧ a2.toInt ≤ 9 + (n : Int))) ∨ (z0 = 1 ∧ (10 ≤ a2.toInt ∧ a2.toInt ≤ 9 + (n : Int)))) → Rt (LF_X11_on 9 0 a1 a2 z0 0 0 σ) (fun r _ => r.toInt = r_on n S D a1.toInt a2.toInt) := by
    intro z0 hz
    show Rt (LB_X11_on_22 (LF_X11_on 8) a1 a2 z0 σ) _
    unfold LB_X11_on_22
    have L45 : ∀ z1 : Int32, ((z1 = 0 ∧ ¬ (20 ≤ a2.toInt ∧ a2.toInt ≤ 19 + (n : Int))) ∨ (z1 = 1 ∧ (20 ≤ a2.toInt ∧ a2.toInt ≤ 19 + (n : Int)))) → Rt (LF_X11_on 8 1 a1 a2 z1 z0 0 σ) (fun r _ => r.toInt = r_on n S D a1.toInt a2.toInt) := by
      intro z1 h1
      show Rt (LB_X11_on_45 (LF_X11_on 7) a1 a2 z0 z1 σ) _
      unfold LB_X11_on_45
      by_cases e0 : a2.toInt = 0
      · refine Rt_t (i_eq (show _ = (0 : Int) from e0)) ?_
        rcases hz with ⟨z, y⟩ | ⟨z, y⟩
        · rcases h1 with ⟨u, w⟩ | ⟨u, w⟩
          · exact on62C h si 6 (Or.inl ⟨e0, z, u⟩)
          · omega
        · omega
      refine Rt_f (i_ne (show _ ≠ (0 : Int) from e0)) ?_
      rcases hz with ⟨z, y⟩ | ⟨z, y⟩
      · refine Rt_t z ?_
        rcases h1 with ⟨u, w⟩ | ⟨u, w⟩
        · refine Rt_t u ?_
          exact none (by rintro (q | q | q); exact e0 q; exact y q; exact w q)
        · refine Rt_f (by rw [u]; decide) ?_
          exact on62C h si 6 (Or.inr (Or.inr ⟨w, z, u⟩))
      · refine Rt_f (by rw [z]; decide) ?_
        rcases h1 with ⟨u, w⟩ | ⟨u, w⟩
        · exact on62C h si 6 (Or.inr (Or.inl ⟨y, z, u⟩))
        · omega
    by_cases d : a2.toInt < 20
    · exact Rt_t (i_lt (show _ < (20 : Int) from d)) (L45 0 (Or.inl ⟨rfl, by omega⟩))
    refine Rt_f (i_nlt (show (20 : Int) ≤ _ by omega)) ?_
    have x1 : (a2 - (20 : Int32)).toInt = a2.toInt - 20 := i_sb rfl (by omega) (by omega)
    rw [isMC hn, fb_e]
    by_cases e : 0 ≤ (a2 - (20 : Int32)).toInt ∧ (a2 - (20 : Int32)).toInt < (n : Int)
    · rw [if_pos e]; exact Rt_f (by decide +kernel) (L45 1 (Or.inr ⟨rfl, by omega⟩))
    · rw [if_neg e]; exact Rt_t rfl (L45 0 (Or.inl ⟨rfl, by omega⟩))
  by_cases d : a2.toInt < 10
  · exact Rt_t (i_lt (show _ < (10 : Int) from d)) (L22 0 (Or.inl ⟨rfl, by omega⟩))
  refine Rt_f (i_nlt (show (10 : Int) ≤ _ by omega)) ?_
  have x1 : (a2 - (10 : Int32)).toInt = a2.toInt - 10 := i_sb rfl (by omega) (by omega)
  rw [isMC hn, fb_e]
  by_cases e : 0 ≤ (a2 - (10 : Int32)).toInt ∧ (a2 - (10 : Int32)).toInt < (n : Int)
  · rw [if_pos e]; exact Rt_f (by decide +kernel) (L22 1 (Or.inr ⟨rfl, by omega⟩))
  · rw [if_neg e]; exact Rt_t rfl (L22 0 (Or.inl ⟨rfl, by omega⟩))
theorem donLpC {n : Nat} {S : Stc} (sb : SBd n S) : ∀ (j k N : Nat) (x : Int32) (D : Dyn) (K : Int) (σ : Sg), j + k = 121 → j < N → x.toInt = (k : Int) → K + (j : Int) ≤ 100000 → DBd n K D → CS 33 n S σ → CDy 33 n D σ →
    Rt (LF_X11_done N x σ) (fun r _ => r.toInt = r_done n S j k D) := by
  have n6 := sb.1
  intro j
  induction j with
  | zero =>
    intro k N x D K σ hj hN hx hK db cs cd
    obtain ⟨N, rfl⟩ : ∃ i, N = i + 1 := ⟨N - 1, by omega⟩
    show Rt (LB_X11_done_13 (LF_X11_done N) x σ) _
    unfold LB_X11_done_13
    refine Rt_t (i_lt (show (120 : Int) < _ by omega)) ?_
    exact (rfl : (-5 : Int32).toInt = -5)
  | succ j ih =>
    intro k N x D K σ hj hN hx hK db cs cd
    obtain ⟨N, rfl⟩ : ∃ i, N = i + 1 := ⟨N - 1, by omega⟩
    show Rt (LB_X11_done_13 (LF_X11_done N) x σ) (fun r _ => r.toInt = (if aDn (aLg (S_cl S)) (D_at D) n 0 = true then (k : Int) else r_done n S j (k + 1) (aMin S D).2))
    unfold LB_X11_done_13
    refine Rt_f (i_nlt (show _ ≤ (120 : Int) by omega)) ?_
    refine Rt_fe (donC n6 cs cd) ?_
    by_cases c : aDn (aLg (S_cl S)) (D_at D) n 0 = true
    · rw [c, if_pos rfl]
      refine Rt_f (by decide +kernel) ?_
      exact hx
    · rw [Bool.eq_false_iff.mpr c, if_neg (show ¬ (false = true) by decide +kernel)]
      refine Rt_t rfl ?_
      refine Rt_fb (minC (c0 := 33) (by decide +kernel) sb db (by omega) cs cd) (fun r6 σ5 ⟨_, d5, f5⟩ => ?_)
      refine Rt_fl (fun v6 e6 => ?_)
      exact ih (k + 1) N v6 (aMin S D).2 (K + 1) σ5 (by omega) (by omega) (by rw [e6, i_inc (by omega)]; omega) (by omega) (aMin_b sb db) (CS_m (by decide +kernel) f5 cs) d5
theorem doneC {n : Nat} {K : Int} {S : Stc} {D : Dyn} {σ : Sg} (h : HCl n K S D σ) : Rt (F_X11_done σ) (fun r _ => r.toInt = r_done n S 121 0 D) := by
  unfold F_X11_done
  exact Rt_fs (HCl_bec h) (fun σ1 ⟨s1, d1, _⟩ => donLpC h.1 121 0 200 (0 : Int32) D K σ1 rfl (by decide +kernel) rfl (by have := h.2.2.1; omega) h.2.1 s1 d1)
/-! what the class answers: whets, apart, rest, paused -/
noncomputable def aTs (S : Stc) (b k : Int) (i : Nat) (D : Dyn) : Dyn := if b = 0 ∧ (1 ≤ k ∧ k < 16 ∧ ((i : Int) + 1) % k = 0) then aWhe D else (aMin S D).2
noncomputable def aTp (b k : Int) (i : Nat) (D : Dyn) : Dyn := if b = 3 ∧ (i : Int) = k then aPas 5 15 D else D
noncomputable def aTb (S : Stc) (b k : Int) : Nat → Nat → Dyn → Dyn
  | 0, _, D => D
  | j + 1, i, D => aTb S b k j (i + 1) (aTs S b k i (aTp b k i D))
theorem aTp_b {n : Nat} {D : Dyn} {K b k : Int} {i : Nat} (d : DBd n K D) : DBd n (K + 5) (aTp b k i D) := by
  unfold aTp
  split
  · exact aPas_b d (by decide +kernel) (by decide +kernel)
  · exact ⟨by have := d.1; omega, d.2⟩
theorem whIn {a b : Int32} {i k : Int} {σ : Sg} (ha : a.toInt = i) (hb : b.toInt = k) (hi : 0 ≤ i) : F_X11_whetsIn a b σ = (if 1 ≤ k ∧ k < 16 ∧ i % k = 0 then (1 : Int32) else 0, σ) := by
  unfold F_X11_whetsIn
  by_cases c1 : k < 1
  · rw [if_pos (i_lt (show _ < (1 : Int) by omega)), if_neg (by omega)]
  rw [if_neg (i_nlt (show (1 : Int) ≤ _ by omega))]
  by_cases c2 : 16 ≤ k
  · rw [if_pos (i_le (show (16 : Int) ≤ _ by omega)), if_neg (by omega)]
  rw [if_neg (i_nle (show _ < (16 : Int) by omega))]
  have rm : (a - a / b * b).toInt = i % k := by rw [i_rem (k := k) (by omega) (by omega) hb, ha]
  by_cases c3 : i % k = 0
  · rw [if_pos (i_eq (show _ = (0 : Int) by omega)), if_pos ⟨by omega, by omega, c3⟩]
  · rw [if_neg (i_ne (show _ ≠ (0 : Int) by omega)), if_neg (fun z => c3 z.2.2)]
theorem totLC {n : Nat} {S : Stc} {x1 x2 x3 : Int32} {b k : Int} (sb : SBd n S) (h1 : x1.toInt = b) (h3 : x3.toInt = k) (hx : x2.toInt ≤ 60) : ∀ (j i N : Nat) (x4 : Int32) (D : Dyn) (K : Int) (σ : Sg), x2.toInt = (i : Int) + (j : Int) → 2 * j + 1 ≤ N → x4.toInt = (i : Int) → K + 6 * (j : Int) ≤ 100000 → DBd n K D → CS 33 n S σ → CDy 33 n D σ →
    Rt (LF_X11_totalBy N 1 x1 x2 x3 x4 σ) (fun r σ' => r.toInt = tot n (aTb S b k j i D) ∧ FXv σ σ') := by
  have n6 := sb.1
  intro j
  induction j with
  | zero =>
    intro i N x4 D K σ h hN h4 hK db cs cd
    obtain ⟨N, rfl⟩ : ∃ i, N = i + 1 := ⟨N - 1, by omega⟩
    show Rt (LB_X11_totalBy_53 (LF_X11_totalBy N) x1 x2 x3 x4 σ) _
    unfold LB_X11_totalBy_53
    refine Rt_t (i_le (by omega)) ?_
    obtain ⟨r, e, v⟩ := allC n6 cs.1 db cd
    exact Rt_fe e (Rt_p ⟨v, FXv_rf⟩)
  | succ j ih =>
    intro i N x4 D K σ h hN h4 hK db cs cd
    obtain ⟨N, rfl⟩ : ∃ i, N = i + 2 := ⟨N - 2, by omega⟩
    show Rt (LB_X11_totalBy_53 (LF_X11_totalBy (N + 1)) x1 x2 x3 x4 σ) (fun r σ' => r.toInt = tot n (aTb S b k j (i + 1) (aTs S b k i (aTp b k i D))) ∧ FXv σ σ')
    unfold LB_X11_totalBy_53
    refine Rt_f (i_nle (by omega)) ?_
    have go : ∀ (σ5 : Sg) (D' : Dyn), D' = aTp b k i D → FXv σ σ5 → CS 33 n S σ5 → CDy 33 n D' σ5 → Rt (LF_X11_totalBy (N + 1) 2 x1 x2 x3 x4 σ5) (fun r σ' => r.toInt = tot n (aTb S b k j (i + 1) (aTs S b k i (aTp b k i D))) ∧ FXv σ σ') := by
      intro σ5 D' e f5 s5 d5
      have db5 : DBd n (K + 5) D' := by rw [e]; exact aTp_b db
      rw [← e]
      show Rt (LB_X11_totalBy_78 (LF_X11_totalBy N) x1 x2 x3 x4 σ5) _
      unfold LB_X11_totalBy_78
      have min : aTs S b k i D' = (aMin S D').2 → Rt (fb (F_X1_goesMinute 33 σ5) (fun r9 σ8 => fl (x4 + 1) (fun v10 => LF_X11_totalBy N 1 x1 x2 x3 v10 σ8))) (fun r σ' => r.toInt = tot n (aTb S b k j (i + 1) (aTs S b k i D')) ∧ FXv σ σ') := by
        intro e9
        refine Rt_fb (minC (c0 := 33) (by decide +kernel) sb db5 (by omega) s5 d5) (fun r9 σ8 ⟨_, d8, f8⟩ => ?_)
        refine Rt_fl (fun v10 ev => ?_)
        rw [e9]
        exact Rt_w (ih (i + 1) N v10 _ (K + 6) σ8 (by omega) (by omega) (by rw [ev, i_inc (by omega)]; omega) (by omega) (by have := aMin_b sb db5; rw [show K + 6 = K + 5 + 1 from by omega]; exact this) (CS_m (by decide +kernel) f8 s5) d8) (fun r σ' q => ⟨q.1, FXv_tr f5 (FXv_tr (FXn_v f8) q.2)⟩)
      by_cases c0 : b = 0
      · refine Rt_t (i_eq (show _ = (0 : Int) by omega)) ?_
        rw [whIn (a := x4 + 1) (i := (i : Int) + 1) (by rw [i_inc (by omega)]; omega) h3 (by omega), fb_e]
        by_cases c1 : 1 ≤ k ∧ k < 16 ∧ ((i : Int) + 1) % k = 0
        · rw [if_pos c1]
          refine Rt_f (by decide +kernel) ?_
          have e9 : aTs S b k i D' = aWhe D' := by unfold aTs; rw [if_pos ⟨c0, c1⟩]
          refine Rt_fs (whetC (c0 := 33) (by decide +kernel) sb db5 (by omega) s5 d5) (fun σ8 ⟨d8, f8⟩ => ?_)
          refine Rt_fl (fun v10 ev => ?_)
          rw [e9]
          exact Rt_w (ih (i + 1) N v10 _ (K + 6) σ8 (by omega) (by omega) (by rw [ev, i_inc (by omega)]; omega) (by omega) (by have := aWhe_b db5; rw [show K + 6 = K + 5 + 1 from by omega]; exact this) (CS_m (by decide +kernel) f8 s5) d8) (fun r σ' q => ⟨q.1, FXv_tr f5 (FXv_tr (FXn_v f8) q.2)⟩)
        · rw [if_neg c1]
          exact Rt_t rfl (min (by unfold aTs; rw [if_neg (fun z => c1 z.2)]))
      · exact Rt_f (i_ne (show _ ≠ (0 : Int) by omega)) (min (by unfold aTs; rw [if_neg (fun z => c0 z.1)]))
    by_cases c3 : b = 3
    · refine Rt_t (i_eq (show _ = (3 : Int) by omega)) ?_
      by_cases c4 : (i : Int) = k
      · refine Rt_t (i_eq (by omega)) ?_
        refine Rt_fs (restC (c0 := 33) (j := 5) (by decide +kernel) sb db (by omega) rfl (by decide +kernel) cs cd) (fun σ6 ⟨d6, f6⟩ => ?_)
        exact go σ6 (aPas 5 15 D) (by unfold aTp; rw [if_pos ⟨c3, c4⟩]) (FXn_v f6) (CS_m (by decide +kernel) f6 cs) d6
      · exact Rt_f (i_ne (by omega)) (go σ D (by unfold aTp; rw [if_neg (fun z => c4 z.2)]) FXv_rf cs cd)
    · exact Rt_f (i_ne (show _ ≠ (3 : Int) by omega)) (go σ D (by unfold aTp; rw [if_neg (fun z => c3 z.1)]) FXv_rf cs cd)
theorem CS_gp {n : Nat} {S : Stc} {g : Int} {σ : Sg} {v : Int32} (hv : v.toInt = g) (hg : 0 ≤ g) (h : CS 33 n S σ) : CS 33 n (sGp g S) (si σ 33 11 v) := by
  obtain ⟨h1, h2, h3, h4, h5, ⟨f, h6, h7, h8⟩, h9, h10⟩ := h
  have e : ∀ id k, ¬ (id = 33 ∧ k = 11) → gi (si σ 33 11 v) id k = gi σ id k := fun id k a => gi_si_ne (by omega)
  refine ⟨by rw [e 33 1 (by omega)]; exact h1, by rw [e 33 3 (by omega)]; exact h2, fun p hp => by rw [e (33 + 2) p (by omega)]; exact h3 p hp, fun m hm => ?_, fun k hk => by rw [e (33 + 7) k (by omega)]; exact h5 k hk, ⟨f, h6, h7, FdA_eq (fun id k a b => e id k (by omega)) h8⟩, h9, Or.inl ⟨by rw [gi_si_eq, hv]; exact hg, by rw [gi_si_eq, hv]; rfl⟩⟩
  obtain ⟨μ, κ, a1, a2, a3, a4, a5, a6, a7, a8⟩ := h4 m hm
  exact ⟨μ, κ, a1, a2, a3, a4, a5, by rw [e μ 0 (by omega)]; exact a6, by rw [e μ 1 (by omega)]; exact a7, by rw [e μ 2 (by omega)]; exact a8⟩
theorem stpC {n m : Nat} {K r : Int} {D : Dyn} {σ : Sg} {y : Int32} (d : DBd n K D) (hm : m < n) (hy : y.toInt = r) (hr : 0 ≤ r ∧ r ≤ 20) (hd : CDy 33 n D σ) : CDy 33 n (aStp m r D) (si σ 39 m (gi σ 39 m + y)) := by
  obtain ⟨m1, m2, m3, m4, m5⟩ := hd
  have d5 := (DBd_i.mp d).2.2.2.2 m hm
  have t : (gi σ 39 m).toInt = D_st D m := m5 m hm
  refine ⟨by rw [gi_si_ne (Or.inl (by decide +kernel))]; exact m1, row_k m2 (fun j => gi_si_ne (Or.inl (by decide +kernel))), row_k m3 (fun j => gi_si_ne (Or.inl (by decide +kernel))), row_k m4 (fun j => gi_si_ne (Or.inl (by decide +kernel))), row_u m5 ?_ (fun j hj => gi_si_ne (Or.inr hj))⟩
  rw [show (33 + 6 : Nat) = 39 from rfl, gi_si_eq, i_add (by omega) (by omega), t, hy]
theorem CS_39 {n k : Nat} {S : Stc} {σ : Sg} {v : Int32} (h : CS 33 n S σ) : CS 33 n S (si σ 39 k v) := CS_eq (fun id j a => gi_si_ne (Or.inl (by unfold RcC at a; omega))) (fun k => rfl) rfl h
/-- all after n minutes, by b and k -/
theorem tbC {n j : Nat} {K b k : Int} {S : Stc} {D : Dyn} {σ : Sg} {x1 x2 x3 : Int32} (h : HCl n K S D σ) (h1 : x1.toInt = b) (hb : 0 ≤ b ∧ b ≤ 3) (h2 : x2.toInt = (j : Int)) (hj : j ≤ 60) (h3 : x3.toInt = k) (hk : b = 1 → 0 ≤ k ∧ k ≤ 99) :
    Rt (F_X11_totalBy x1 x2 x3 σ) (fun r σ' => r.toInt = tot n (aTb (if b = 1 then sGp k S else S) b k j 0 (if b = 2 ∧ 0 ≤ k ∧ k < (n : Int) then aStp k.toNat 5 D else D)) ∧ FXv σ σ') := by
  obtain ⟨sb, db, hK, hr, h99, cs, cd⟩ := id h
  have n6 := sb.1
  unfold F_X11_totalBy
  refine Rt_fs (HCl_bec h) (fun σ1 ⟨s1, d1, f1⟩ => ?_)
  have c11 : (gi σ1 1 1).toInt = (n : Int) := by rw [FXv_i f1 (by omega)]; exact cs.1
  by_cases b1 : b = 1
  · refine Rt_t (i_eq (show _ = (1 : Int) by omega)) ?_
    rw [if_pos b1, if_neg (show ¬ (b = 2 ∧ 0 ≤ k ∧ k < (n : Int)) by omega)]
    refine Rt_fl (fun σ3 e3 => ?_)
    have f3 : FXv σ1 σ3 := by rw [e3]; exact FX_si FX_rf (Or.inl (Or.inl (by decide +kernel)))
    have s3 : CS 33 n (sGp k S) σ3 := by rw [e3]; exact CS_gp h3 (hk b1).1 s1
    have d3 : CDy 33 n D σ3 := by rw [e3]; exact CDy_eq (fun id j a => gi_si_ne (by omega)) d1
    show Rt (LB_X11_totalBy_24 (LF_X11_totalBy 1999) x1 x2 x3 σ3) _
    unfold LB_X11_totalBy_24
    refine Rt_f (i_ne (show _ ≠ (2 : Int) by omega)) ?_
    exact Rt_w (totLC (SBd_gp sb (hk b1)) h1 h3 (by omega) j 0 1999 (0 : Int32) D K σ3 (by rw [h2]; omega) (by omega) rfl (by omega) db s3 d3) (fun r σ' q => ⟨q.1, FXv_tr f1 (FXv_tr f3 q.2)⟩)
  · refine Rt_f (i_ne (show _ ≠ (1 : Int) by omega)) ?_
    rw [if_neg b1]
    show Rt (LB_X11_totalBy_24 (LF_X11_totalBy 1999) x1 x2 x3 σ1) _
    unfold LB_X11_totalBy_24
    by_cases b2 : b = 2
    · refine Rt_t (i_eq (show _ = (2 : Int) by omega)) ?_
      rw [isMC c11, fb_e, h3]
      by_cases c : 0 ≤ k ∧ k < (n : Int)
      · rw [if_pos c, if_pos (show b = 2 ∧ 0 ≤ k ∧ k < (n : Int) from ⟨b2, c⟩)]
        refine Rt_f (by decide +kernel) ?_
        have ex := cl_eq (x := x3) (by omega)
        rw [show x3.toNatClampNeg = k.toNat from by omega]
        refine Rt_fl (fun σ7 e7 => ?_)
        have f7 : FXv σ1 σ7 := by rw [e7]; exact FX_si FX_rf (Or.inl (Or.inl (by decide +kernel)))
        have s7 : CS 33 n S σ7 := by rw [e7]; exact CS_39 s1
        have d7 : CDy 33 n (aStp k.toNat 5 D) σ7 := by rw [e7]; exact stpC db (by omega) rfl (by decide +kernel) d1
        exact Rt_w (totLC sb h1 h3 (by omega) j 0 1999 (0 : Int32) _ K σ7 (by rw [h2]; omega) (by omega) rfl (by omega) (aStp_b (r := 5) db (h99 k.toNat (by omega)) (by omega) (by decide +kernel)) s7 d7) (fun r σ' q => ⟨q.1, FXv_tr f1 (FXv_tr f7 q.2)⟩)
      · rw [if_neg c, if_neg (show ¬ (b = 2 ∧ 0 ≤ k ∧ k < (n : Int)) from fun z => c z.2)]
        refine Rt_t rfl ?_
        exact Rt_w (totLC sb h1 h3 (by omega) j 0 1999 (0 : Int32) D K σ1 (by rw [h2]; omega) (by omega) rfl (by omega) db s1 d1) (fun r σ' q => ⟨q.1, FXv_tr f1 q.2⟩)
    · refine Rt_f (i_ne (show _ ≠ (2 : Int) by omega)) ?_
      rw [if_neg (show ¬ (b = 2 ∧ 0 ≤ k ∧ k < (n : Int)) from fun z => b2 z.1)]
      exact Rt_w (totLC sb h1 h3 (by omega) j 0 1999 (0 : Int32) D K σ1 (by rw [h2]; omega) (by omega) rfl (by omega) db s1 d1) (fun r σ' q => ⟨q.1, FXv_tr f1 q.2⟩)
theorem aTb_mins {S : Stc} {b k : Int} : ∀ (j i : Nat) (D : Dyn), b ≠ 0 → (b ≠ 3 ∨ k < (i : Int) ∨ (i : Int) + (j : Int) ≤ k) → aTb S b k j i D = aMins S j D := by
  intro j
  induction j with
  | zero => intro i D _ _; rfl
  | succ j ih =>
    intro i D hb h
    show aTb S b k j (i + 1) (aTs S b k i (aTp b k i D)) = aMins S j (aMin S D).2
    have e1 : aTp b k i D = D := by unfold aTp; rw [if_neg (fun z => by rcases h with h | h | h; exact h z.1; all_goals omega)]
    have e2 : aTs S b k i D = (aMin S D).2 := by unfold aTs; rw [if_neg (fun z => hb z.1)]
    rw [e1, e2]
    exact ih (i + 1) _ hb (by omega)
theorem aTb_whe {S : Stc} {k : Nat} (hk : 1 ≤ k) : ∀ (j i : Nat) (D : Dyn), aTb S 0 (k : Int) j i D = aTw S k j (i + 1) D := by
  intro j
  induction j with
  | zero => intro i D; rfl
  | succ j ih =>
    intro i D
    show aTb S 0 (k : Int) j (i + 1) (aTs S 0 (k : Int) i (aTp 0 (k : Int) i D)) = aTw S k j (i + 1 + 1) (if k < 16 ∧ (i + 1) % k = 0 then aWhe D else (aMin S D).2)
    have e1 : aTp 0 (k : Int) i D = D := by unfold aTp; rw [if_neg (fun z => absurd z.1 (by decide +kernel))]
    have e2 : aTs S 0 (k : Int) i D = if k < 16 ∧ (i + 1) % k = 0 then aWhe D else (aMin S D).2 := by
      unfold aTs
      have m : ((i : Int) + 1) % (k : Int) = (((i + 1) % k : Nat) : Int) := by rw [show (i : Int) + 1 = ((i + 1 : Nat) : Int) from by omega]; rfl
      by_cases c : k < 16 ∧ (i + 1) % k = 0
      · rw [if_pos c, if_pos ⟨rfl, by omega, by omega, by rw [m, c.2]; rfl⟩]
      · rw [if_neg c, if_neg (fun z => c ⟨by have := z.2.2.1; omega, by have := z.2.2.2; rw [m] at this; omega⟩)]
    rw [e1, e2]
    exact ih (i + 1) _
theorem aTb_pz {S : Stc} {k : Nat} : ∀ (j i : Nat) (D : Dyn), i ≤ k → k < i + j → aTb S 3 (k : Int) j i D = aMins S (i + j - k) (aPas 5 15 (aMins S (k - i) D)) := by
  intro j
  induction j with
  | zero => intro i D h1 h2; omega
  | succ j ih =>
    intro i D h1 h2
    show aTb S 3 (k : Int) j (i + 1) (aTs S 3 (k : Int) i (aTp 3 (k : Int) i D)) = _
    have e2 : ∀ D', aTs S 3 (k : Int) i D' = (aMin S D').2 := fun D' => by unfold aTs; rw [if_neg (fun z => absurd z.1 (by decide +kernel))]
    by_cases c : i = k
    · subst c
      have e1 : aTp 3 (i : Int) i D = aPas 5 15 D := by unfold aTp; rw [if_pos ⟨rfl, rfl⟩]
      rw [e1, e2, aTb_mins j (i + 1) _ (by decide +kernel) (Or.inr (Or.inl (by omega))), show i + (j + 1) - i = j + 1 from by omega, show i - i = 0 from by omega]; rfl
    · have e1 : aTp 3 (k : Int) i D = D := by unfold aTp; rw [if_neg (fun z => by have := z.2; omega)]
      rw [e1, e2, ih (i + 1) _ (by omega) (by omega), show i + 1 + j - k = i + (j + 1) - k from by omega, show k - i = (k - (i + 1)) + 1 from by omega]; rfl
theorem tot_pz {n k j : Nat} {S : Stc} {D : Dyn} (h : k ≤ j) : tot n (aTb S 3 (k : Int) j 0 D) = tot n (aPz S j k D) := by
  by_cases c : k < j
  · rw [aTb_pz j 0 D (by omega) (by omega), show 0 + j - k = j - k from by omega, show k - 0 = k from by omega]; rfl
  · obtain rfl : k = j := by omega
    rw [aTb_mins k 0 D (by decide +kernel) (Or.inr (Or.inr (by omega)))]
    unfold aPz
    rw [show k - k = 0 from by omega]; rfl
/-- the most, by numbers -/
theorem mstLC {n : Nat} {K : Int} {S : Stc} {D : Dyn} {x1 x2 x4 x5 : Int32} {last : Nat} {f : Nat → Int} (h4 : x4.toInt = (last : Int) ∨ (x4.toInt = -1 ∧ last = 0)) (hl : last ≤ 60)
    (T : ∀ (k : Nat) (x8 : Int32) (σ : Sg), (k : Int) ≤ x4.toInt → x8.toInt = (k : Int) → HCl n K S D σ → Rt (F_X11_totalBy x1 x2 x8 σ) (fun r σ' => r.toInt = f k ∧ FXv σ σ')) : ∀ (i k N : Nat) (x6 x7 x8 : Int32) (b m : Int) (σ : Sg), (k : Int) + (i : Int) = x4.toInt + 1 → i < N → x6.toInt = b → x7.toInt = m → x8.toInt = (k : Int) → HCl n K S D σ →
    Rt (LF_X11_mostBy N x1 x2 x4 x5 x6 x7 x8 σ) (fun r σ' => r.toInt = (if x5.toInt = 0 then (aBst f i k b m).1 else (aBst f i k b m).2) ∧ FXv σ σ') := by
  intro i
  induction i with
  | zero =>
    intro k N x6 x7 x8 b m σ hi hN h6 h7 h8 h
    obtain ⟨N, rfl⟩ : ∃ i, N = i + 1 := ⟨N - 1, by omega⟩
    show Rt (LB_X11_mostBy_17 (LF_X11_mostBy N) x1 x2 x4 x5 x6 x7 x8 σ) _
    unfold LB_X11_mostBy_17
    refine Rt_t (i_lt (by omega)) ?_
    by_cases c : x5.toInt = 0
    · rw [if_pos c]; exact Rt_t (i_eq c) (Rt_p ⟨h6, FXv_rf⟩)
    · rw [if_neg c]; exact Rt_f (i_ne c) (Rt_p ⟨h7, FXv_rf⟩)
  | succ i ih =>
    intro k N x6 x7 x8 b m σ hi hN h6 h7 h8 h
    obtain ⟨N, rfl⟩ : ∃ i, N = i + 1 := ⟨N - 1, by omega⟩
    show Rt (LB_X11_mostBy_17 (LF_X11_mostBy N) x1 x2 x4 x5 x6 x7 x8 σ) _
    unfold LB_X11_mostBy_17
    refine Rt_f (i_nlt (by omega)) ?_
    refine Rt_fb (T k x8 σ (by omega) h8 h) (fun r4 σ3 ⟨v, z⟩ => ?_)
    rw [aBst_s]
    by_cases c : m < f k
    · refine Rt_f (i_nle (by omega)) ?_
      rw [if_pos c]
      refine Rt_fl (fun v6 e6 => ?_)
      exact Rt_w (ih (k + 1) N x8 r4 v6 _ _ σ3 (by omega) (by omega) h8 v (by rw [e6, i_inc (by omega)]; omega) (HCl_v z h)) (fun r σ' q => ⟨q.1, FXv_tr z q.2⟩)
    · refine Rt_t (i_le (by omega)) ?_
      rw [if_neg c]
      refine Rt_fl (fun v6 e6 => ?_)
      exact Rt_w (ih (k + 1) N x6 x7 v6 _ _ σ3 (by omega) (by omega) h6 h7 (by rw [e6, i_inc (by omega)]; omega) (HCl_v z h)) (fun r σ' q => ⟨q.1, FXv_tr z q.2⟩)
theorem aBst_0 {f : Nat → Int} {j k : Nat} (h : 0 ≤ f k) : aBst f (j + 1) k 0 (-1) = aBst f j (k + 1) (k : Int) (f k) := by
  rw [aBst_s, if_pos (by omega)]
theorem mst_in {n j : Nat} {K : Int} {S : Stc} {D : Dyn} {σ : Sg} {x1 x2 x3 x4 x5 : Int32} {first last : Nat} {f : Nat → Int} (h : HCl n K S D σ) (h3 : x3.toInt = (first : Int)) (h4 : x4.toInt = (last : Int)) (hfl : first ≤ last) (hl : last ≤ 60) (hf : 0 ≤ f first) (e : last = first + j)
    (T : ∀ (k : Nat) (x8 : Int32) (σ : Sg), (first : Int) ≤ (k : Int) → (k : Int) ≤ x4.toInt → x8.toInt = (k : Int) → HCl n K S D σ → Rt (F_X11_totalBy x1 x2 x8 σ) (fun r σ' => r.toInt = f k ∧ FXv σ σ')) :
    Rt (F_X11_mostBy x1 x2 x3 x4 x5 σ) (fun r σ' => r.toInt = (if x5.toInt = 0 then (aBst f (j + 1) first 0 (-1)).1 else (aBst f (j + 1) first 0 (-1)).2) ∧ FXv σ σ') := by
  unfold F_X11_mostBy
  refine Rt_fb (T first x3 σ (Int.le_refl _) (by omega) h3 h) (fun r2 σ1 ⟨v, z⟩ => ?_)
  refine Rt_fl (fun v3 e3 => ?_)
  rw [aBst_0 hf]
  have go : ∀ (i k N : Nat) (x6 x7 x8 : Int32) (b m : Int) (σ : Sg), first ≤ k → (k : Int) + (i : Int) = x4.toInt + 1 → i < N → x6.toInt = b → x7.toInt = m → x8.toInt = (k : Int) → HCl n K S D σ →
    Rt (LF_X11_mostBy N x1 x2 x4 x5 x6 x7 x8 σ) (fun r σ' => r.toInt = (if x5.toInt = 0 then (aBst f i k b m).1 else (aBst f i k b m).2) ∧ FXv σ σ') := by
    intro i
    induction i with
    | zero =>
      intro k N x6 x7 x8 b m σ hk hi hN h6 h7 h8 h
      obtain ⟨N, rfl⟩ : ∃ i, N = i + 1 := ⟨N - 1, by omega⟩
      show Rt (LB_X11_mostBy_17 (LF_X11_mostBy N) x1 x2 x4 x5 x6 x7 x8 σ) _
      unfold LB_X11_mostBy_17
      refine Rt_t (i_lt (by omega)) ?_
      by_cases c : x5.toInt = 0
      · rw [if_pos c]; exact Rt_t (i_eq c) (Rt_p ⟨h6, FXv_rf⟩)
      · rw [if_neg c]; exact Rt_f (i_ne c) (Rt_p ⟨h7, FXv_rf⟩)
    | succ i ih =>
      intro k N x6 x7 x8 b m σ hk hi hN h6 h7 h8 h
      obtain ⟨N, rfl⟩ : ∃ i, N = i + 1 := ⟨N - 1, by omega⟩
      show Rt (LB_X11_mostBy_17 (LF_X11_mostBy N) x1 x2 x4 x5 x6 x7 x8 σ) _
      unfold LB_X11_mostBy_17
      refine Rt_f (i_nlt (by omega)) ?_
      refine Rt_fb (T k x8 σ (by omega) (by omega) h8 h) (fun r4 σ3 ⟨v, z⟩ => ?_)
      rw [aBst_s]
      by_cases c : m < f k
      · refine Rt_f (i_nle (by omega)) ?_
        rw [if_pos c]
        refine Rt_fl (fun v6 e6 => ?_)
        exact Rt_w (ih (k + 1) N x8 r4 v6 _ _ σ3 (by omega) (by omega) (by omega) h8 v (by rw [e6, i_inc (by omega)]; omega) (HCl_v z h)) (fun r σ' q => ⟨q.1, FXv_tr z q.2⟩)
      · refine Rt_t (i_le (by omega)) ?_
        rw [if_neg c]
        refine Rt_fl (fun v6 e6 => ?_)
        exact Rt_w (ih (k + 1) N x6 x7 v6 _ _ σ3 (by omega) (by omega) (by omega) h6 h7 (by rw [e6, i_inc (by omega)]; omega) (HCl_v z h)) (fun r σ' q => ⟨q.1, FXv_tr z q.2⟩)
  exact Rt_w (go j (first + 1) 90 x3 r2 v3 _ _ σ1 (by omega) (by omega) (by omega) h3 v (by rw [e3, i_inc (by omega)]; omega) (HCl_v z h)) (fun r σ' q => ⟨q.1, FXv_tr z q.2⟩)
/-! what the class answers: whets, apart, rest, paused, to the end; stop, alone, odds, mean -/
theorem whetsC {n : Nat} {K : Int} {S : Stc} {D : Dyn} {σ : Sg} {a1 a2 : Int32} (h : HCl n K S D σ) : Rt (F_X11_whets a1 a2 σ) (fun r _ => r.toInt = r_whets n S D a1.toInt a2.toInt) := by
  have n6 := h.1.1
  unfold F_X11_whets
  have core : 0 ≤ a2.toInt ∧ a2.toInt ≤ 1 → Rt (LF_X11_whets 9 a1 a2 σ) (fun r _ => r.toInt = r_whets n S D a1.toInt a2.toInt) := by
    intro c
    show Rt (LB_X11_whets_11 (LF_X11_whets 8) a1 a2 σ) _
    unfold LB_X11_whets_11
    by_cases d0 : a1.toInt < 1
    · refine Rt_t (i_lt (show _ < (1 : Int) from d0)) ?_
      show (-2 : Int32).toInt = r_whets n S D a1.toInt a2.toInt
      unfold r_whets; rw [if_pos c, if_neg (by omega)]; rfl
    refine Rt_f (i_nlt (show (1 : Int) ≤ _ by omega)) ?_
    by_cases d1 : a1.toInt ≤ 60
    · refine Rt_t (i_le (show _ ≤ (60 : Int) from d1)) ?_
      obtain ⟨j, hj⟩ : ∃ j : Nat, a1.toInt = (j : Int) := ⟨a1.toInt.toNat, by omega⟩
      have ev : r_whets n S D a1.toInt a2.toInt = (if a2.toInt = 0 then (aBst (fun k => tot n (aTw S k j 1 D)) 16 1 0 (-1)).1 else (aBst (fun k => tot n (aTw S k j 1 D)) 16 1 0 (-1)).2) := by
        unfold r_whets; rw [if_pos c, if_pos (by omega), hj, show ((j : Int)).toNat = j from by omega]
      rw [ev]
      refine Rt_fb (mst_in (first := 1) (last := 16) (j := 15) (f := fun k => tot n (aTw S k j 1 D)) h rfl rfl (by decide +kernel) (by decide +kernel) (tot_b n6 (aTw_b h.1 j 1 D K h.2.1)).1 rfl (fun k x8 σ hk1 hk2 h8 h => ?_)) (fun r s e => ?_)
      · refine Rt_w (tbC (b := 0) (k := (k : Int)) h rfl (by decide +kernel) hj (by omega) h8 (fun z => absurd z (by decide +kernel))) (fun r σ' q => ⟨?_, q.2⟩)
        rw [q.1, if_neg (by decide +kernel), if_neg (fun z => absurd z.1 (by decide +kernel)), aTb_whe (by omega)]
      · exact e.1
    · refine Rt_f (i_nle (show (60 : Int) < _ by omega)) ?_
      show (-2 : Int32).toInt = r_whets n S D a1.toInt a2.toInt
      unfold r_whets; rw [if_pos c, if_neg (by omega)]; rfl
  by_cases e0 : a2.toInt = 0
  · exact Rt_t (i_eq (show _ = (0 : Int) from e0)) (core (by omega))
  refine Rt_f (i_ne (show _ ≠ (0 : Int) from e0)) ?_
  by_cases e1 : a2.toInt = 1
  · exact Rt_t (i_eq (show _ = (1 : Int) from e1)) (core (by omega))
  refine Rt_f (i_ne (show _ ≠ (1 : Int) from e1)) ?_
  show (-1 : Int32).toInt = r_whets n S D a1.toInt a2.toInt
  unfold r_whets; rw [if_neg (by omega)]; rfl
theorem apartC {n : Nat} {K : Int} {S : Stc} {D : Dyn} {σ : Sg} {a1 a2 : Int32} (h : HCl n K S D σ) : Rt (F_X11_apart a1 a2 σ) (fun r _ => r.toInt = r_apart n S D a1.toInt a2.toInt) := by
  have n6 := h.1.1
  unfold F_X11_apart
  have core : 0 ≤ a2.toInt ∧ a2.toInt ≤ 1 → Rt (LF_X11_apart 9 a1 a2 σ) (fun r _ => r.toInt = r_apart n S D a1.toInt a2.toInt) := by
    intro c
    show Rt (LB_X11_apart_11 (LF_X11_apart 8) a1 a2 σ) _
    unfold LB_X11_apart_11
    by_cases d0 : a1.toInt < 1
    · refine Rt_t (i_lt (show _ < (1 : Int) from d0)) ?_
      show (-2 : Int32).toInt = r_apart n S D a1.toInt a2.toInt
      unfold r_apart; rw [if_pos c, if_neg (by omega)]; rfl
    refine Rt_f (i_nlt (show (1 : Int) ≤ _ by omega)) ?_
    by_cases d1 : a1.toInt ≤ 60
    · refine Rt_t (i_le (show _ ≤ (60 : Int) from d1)) ?_
      obtain ⟨j, hj⟩ : ∃ j : Nat, a1.toInt = (j : Int) := ⟨a1.toInt.toNat, by omega⟩
      have ev : r_apart n S D a1.toInt a2.toInt = (if a2.toInt = 0 then (aBst (fun k => tot n (aMins (sGp k S) j D)) 10 0 0 (-1)).1 else (aBst (fun k => tot n (aMins (sGp k S) j D)) 10 0 0 (-1)).2) := by
        unfold r_apart; rw [if_pos c, if_pos (by omega), hj, show ((j : Int)).toNat = j from by omega]
      rw [ev]
      refine Rt_fb (mst_in (first := 0) (last := 9) (j := 9) (f := fun k => tot n (aMins (sGp k S) j D)) h rfl rfl (by decide +kernel) (by decide +kernel) (tot_b n6 (aMins_b (SBd_gp h.1 (by decide +kernel)) j D K h.2.1)).1 rfl (fun k x8 σ hk1 hk2 h8 h => ?_)) (fun r s e => ?_)
      · have hk2 : (k : Int) ≤ 9 := hk2
        refine Rt_w (tbC (b := 1) (k := (k : Int)) h rfl (by decide +kernel) hj (by omega) h8 (fun _ => by omega)) (fun r σ' q => ⟨?_, q.2⟩)
        rw [q.1, if_pos rfl, if_neg (fun z => absurd z.1 (by decide +kernel)), aTb_mins _ _ _ (by decide +kernel) (Or.inl (by decide +kernel))]
      · exact e.1
    · refine Rt_f (i_nle (show (60 : Int) < _ by omega)) ?_
      show (-2 : Int32).toInt = r_apart n S D a1.toInt a2.toInt
      unfold r_apart; rw [if_pos c, if_neg (by omega)]; rfl
  by_cases e0 : a2.toInt = 0
  · exact Rt_t (i_eq (show _ = (0 : Int) from e0)) (core (by omega))
  refine Rt_f (i_ne (show _ ≠ (0 : Int) from e0)) ?_
  by_cases e1 : a2.toInt = 1
  · exact Rt_t (i_eq (show _ = (1 : Int) from e1)) (core (by omega))
  refine Rt_f (i_ne (show _ ≠ (1 : Int) from e1)) ?_
  show (-1 : Int32).toInt = r_apart n S D a1.toInt a2.toInt
  unfold r_apart; rw [if_neg (by omega)]; rfl
theorem pausedC {n : Nat} {K : Int} {S : Stc} {D : Dyn} {σ : Sg} {a1 a2 : Int32} (h : HCl n K S D σ) : Rt (F_X11_paused a1 a2 σ) (fun r _ => r.toInt = r_paused n S D a1.toInt a2.toInt) := by
  have n6 := h.1.1
  unfold F_X11_paused
  have core : 0 ≤ a2.toInt ∧ a2.toInt ≤ 1 → Rt (LF_X11_paused 9 a1 a2 σ) (fun r _ => r.toInt = r_paused n S D a1.toInt a2.toInt) := by
    intro c
    show Rt (LB_X11_paused_11 (LF_X11_paused 8) a1 a2 σ) _
    unfold LB_X11_paused_11
    by_cases d0 : a1.toInt < 1
    · refine Rt_t (i_lt (show _ < (1 : Int) from d0)) ?_
      show (-2 : Int32).toInt = r_paused n S D a1.toInt a2.toInt
      unfold r_paused; rw [if_pos c, if_neg (by omega)]; rfl
    refine Rt_f (i_nlt (show (1 : Int) ≤ _ by omega)) ?_
    by_cases d1 : a1.toInt ≤ 30
    · refine Rt_t (i_le (show _ ≤ (30 : Int) from d1)) ?_
      obtain ⟨j, hj⟩ : ∃ j : Nat, a1.toInt = (j : Int) := ⟨a1.toInt.toNat, by omega⟩
      have ev : r_paused n S D a1.toInt a2.toInt = (if a2.toInt = 0 then (aBst (fun k => tot n (aPz S j k D)) (j + 1) 0 0 (-1)).1 else (aBst (fun k => tot n (aPz S j k D)) (j + 1) 0 0 (-1)).2) := by
        unfold r_paused; rw [if_pos c, if_pos (by omega), hj, show ((j : Int)).toNat = j from by omega]
      rw [ev]
      have t0 : 0 ≤ tot n (aPz S j 0 D) := by
        rw [← tot_pz (Nat.zero_le j)]
        have b := aMins_b h.1 (j - 0) _ _ (aPas_b (u := 5) (v := 15) (aMins_b h.1 0 D K h.2.1) (by decide +kernel) (by decide +kernel))
        rw [tot_pz (Nat.zero_le j)]
        exact (tot_b n6 b).1
      refine Rt_fb (mst_in (first := 0) (last := j) (j := j) (f := fun k => tot n (aPz S j k D)) h rfl hj (Nat.zero_le j) (by omega) t0 (by omega) (fun k x8 σ hk1 hk2 h8 h => ?_)) (fun r s e => ?_)
      · refine Rt_w (tbC (b := 3) (k := (k : Int)) h rfl (by decide +kernel) hj (by omega) h8 (fun z => absurd z (by decide +kernel))) (fun r σ' q => ⟨?_, q.2⟩)
        rw [q.1, if_neg (by decide +kernel), if_neg (fun z => absurd z.1 (by decide +kernel)), tot_pz (by omega)]
      · exact e.1
    · refine Rt_f (i_nle (show (30 : Int) < _ by omega)) ?_
      show (-2 : Int32).toInt = r_paused n S D a1.toInt a2.toInt
      unfold r_paused; rw [if_pos c, if_neg (by omega)]; rfl
  by_cases e0 : a2.toInt = 0
  · exact Rt_t (i_eq (show _ = (0 : Int) from e0)) (core (by omega))
  refine Rt_f (i_ne (show _ ≠ (0 : Int) from e0)) ?_
  by_cases e1 : a2.toInt = 1
  · exact Rt_t (i_eq (show _ = (1 : Int) from e1)) (core (by omega))
  refine Rt_f (i_ne (show _ ≠ (1 : Int) from e1)) ?_
  show (-1 : Int32).toInt = r_paused n S D a1.toInt a2.toInt
  unfold r_paused; rw [if_neg (by omega)]; rfl
theorem aBst_ch {f : Nat → Int} : ∀ (j k : Nat) (b m : Int), ((aBst f j k b m).1 = b ∧ (aBst f j k b m).2 = m) ∨ ∃ i : Nat, k ≤ i ∧ i < k + j ∧ (aBst f j k b m).1 = (i : Int) ∧ (aBst f j k b m).2 = f i := by
  intro j
  induction j with
  | zero => intro k b m; exact Or.inl ⟨rfl, rfl⟩
  | succ j ih =>
    intro k b m
    rw [aBst_s]
    by_cases c : m < f k
    · rw [if_pos c]
      rcases ih (k + 1) (k : Int) (f k) with ⟨a, b⟩ | ⟨i, a, b, c, d⟩
      · exact Or.inr ⟨k, by omega, by omega, a, b⟩
      · exact Or.inr ⟨i, by omega, by omega, c, d⟩
    · rw [if_neg c]
      rcases ih (k + 1) b m with h | ⟨i, a, b, c, d⟩
      · exact Or.inl h
      · exact Or.inr ⟨i, by omega, by omega, c, d⟩
theorem aBst_b {f : Nat → Int} : ∀ (j k : Nat) (b b' m : Int), (aBst f j k b m).2 = (aBst f j k b' m).2 ∧ ((aBst f j k b m).1 = (aBst f j k b' m).1 ∨ ((aBst f j k b m).1 = b ∧ (aBst f j k b' m).1 = b')) := by
  intro j
  induction j with
  | zero => intro k b b' m; exact ⟨rfl, Or.inr ⟨rfl, rfl⟩⟩
  | succ j ih =>
    intro k b b' m
    rw [aBst_s, aBst_s]
    by_cases c : m < f k
    · rw [if_pos c, if_pos c]; exact ⟨rfl, Or.inl rfl⟩
    · rw [if_neg c, if_neg c]; exact ih (k + 1) b b' m
theorem restCa {n : Nat} {K : Int} {S : Stc} {D : Dyn} {σ : Sg} {a1 a2 : Int32} (h : HCl n K S D σ) : Rt (F_X11_rest a1 a2 σ) (fun r _ => r.toInt = r_rest n S D a1.toInt a2.toInt) := by
  have n6 := h.1.1
  have c1 := h.2.2.2.2.2.1.1
  unfold F_X11_rest
  have core : 0 ≤ a2.toInt ∧ a2.toInt ≤ 1 → Rt (LF_X11_rest 9 a1 a2 σ) (fun r _ => r.toInt = r_rest n S D a1.toInt a2.toInt) := by
    intro c
    show Rt (LB_X11_rest_11 (LF_X11_rest 8) a1 a2 σ) _
    unfold LB_X11_rest_11
    by_cases d0 : a1.toInt < 1
    · refine Rt_t (i_lt (show _ < (1 : Int) from d0)) ?_
      show (-2 : Int32).toInt = r_rest n S D a1.toInt a2.toInt
      unfold r_rest; rw [if_pos c, if_neg (by omega)]; rfl
    refine Rt_f (i_nlt (show (1 : Int) ≤ _ by omega)) ?_
    by_cases d1 : a1.toInt ≤ 60
    · refine Rt_t (i_le (show _ ≤ (60 : Int) from d1)) ?_
      obtain ⟨j, hj⟩ : ∃ j : Nat, a1.toInt = (j : Int) := ⟨a1.toInt.toNat, by omega⟩
      obtain ⟨f, ef⟩ : ∃ f : Nat → Int, f = fun k => tot n (aMins S j (aStp k 5 D)) := ⟨_, rfl⟩
      obtain ⟨m0, em⟩ : ∃ m0, m0 = tot n (aMins S j D) := ⟨_, rfl⟩
      have ev : r_rest n S D a1.toInt a2.toInt = (if (aBst f n 0 (-5) m0).1 < 0 ∨ a2.toInt = 0 then (aBst f n 0 (-5) m0).1 else (aBst f n 0 (-5) m0).2) := by
        unfold r_rest; rw [if_pos c, if_pos (by omega), hj, show ((j : Int)).toNat = j from by omega, ef, em]
      rw [ev]
      have lst : (gi σ 1 1 - (1 : Int32)).toInt = (n : Int) - 1 := by rw [i_sub (y := (1 : Int32)) (by show (_ : Int) ≤ _ - 1; omega) (by show _ - 1 ≤ (_ : Int); omega), c1]; rfl
      have T : ∀ (k : Nat) (x8 : Int32) (σ : Sg), (k : Int) ≤ (n : Int) - 1 → x8.toInt = (k : Int) → HCl n K S D σ → Rt (F_X11_totalBy (2 : Int32) a1 x8 σ) (fun r σ' => r.toInt = f k ∧ FXv σ σ') := by
        intro k x8 σ hk h8 h
        refine Rt_w (tbC (b := 2) (k := (k : Int)) h rfl (by decide +kernel) hj (by omega) h8 (fun z => absurd z (by decide +kernel))) (fun r σ' q => ⟨?_, q.2⟩)
        rw [q.1, if_neg (by decide +kernel), if_pos ⟨rfl, by omega, by omega⟩, aTb_mins _ _ _ (by decide +kernel) (Or.inl (by decide +kernel)), ef, show ((k : Int)).toNat = k from by omega]
      have H : Rt (F_X11_mostBy (2 : Int32) a1 (-1 : Int32) (gi σ 1 1 - (1 : Int32)) (0 : Int32) σ) (fun r σ' => r.toInt = (aBst f n 0 (-1) m0).1 ∧ FXv σ σ') := by
        unfold F_X11_mostBy
        refine Rt_fb (tbC (x1 := (2 : Int32)) (x3 := (-1 : Int32)) (b := 2) (k := -1) h rfl (by decide +kernel) hj (by omega) rfl (fun z => absurd z (by decide +kernel))) (fun r2 σ1 ⟨v, z⟩ => ?_)
        rw [if_neg (by decide +kernel), if_neg (by omega), aTb_mins _ _ _ (by decide +kernel) (Or.inl (by decide +kernel)), ← em] at v
        refine Rt_fl (fun v3 e3 => ?_)
        refine Rt_w (mstLC (last := n - 1) (f := f) (x5 := (0 : Int32)) (by omega) (by omega) (fun k x8 σ hk h8 h => T k x8 σ (by omega) h8 h) n 0 90 (-1 : Int32) r2 v3 (-1) m0 σ1 (by omega) (by omega) rfl v (by rw [e3]; rfl) (HCl_v z h)) (fun r σ' q => ⟨?_, FXv_tr z q.2⟩)
        rw [q.1, if_pos (show (0 : Int32).toInt = 0 from rfl)]
      refine Rt_fb H (fun r4 σ3 ⟨v, z⟩ => ?_)
      obtain ⟨b2, b1⟩ := aBst_b (f := f) n 0 (-1) (-5) m0
      rcases aBst_ch (f := f) n 0 (-1) m0 with ⟨q1, q2⟩ | ⟨i, q1, q2, q3, q4⟩
      · have e5 : (aBst f n 0 (-5) m0).1 = -5 := by
          rcases aBst_ch (f := f) n 0 (-5) m0 with ⟨w, -⟩ | ⟨i, -, -, w, -⟩
          · exact w
          · rcases b1 with u | ⟨-, u⟩ <;> omega
        rw [if_pos (Or.inl (show (aBst f n 0 (-5) m0).1 < 0 by omega))]
        refine Rt_f (show ¬ 0 ≤ r4 from i_nle (a := (0 : Int32)) (show r4.toInt < (0 : Int) by omega)) ?_
        show (-5 : Int32).toInt = _
        rw [e5]; rfl
      · have e5 : (aBst f n 0 (-5) m0).1 = (i : Int) := by rcases b1 with u | ⟨u, -⟩ <;> omega
        refine Rt_t (show 0 ≤ r4 from i_le (a := (0 : Int32)) (show (0 : Int) ≤ r4.toInt by omega)) ?_
        by_cases e0 : a2.toInt = 0
        · rw [if_pos (Or.inr e0)]
          refine Rt_t (i_eq (show _ = (0 : Int) from e0)) ?_
          show r4.toInt = _
          rw [e5]; omega
        · rw [if_neg (show ¬ ((aBst f n 0 (-5) m0).1 < 0 ∨ a2.toInt = 0) by omega)]
          refine Rt_f (i_ne (show _ ≠ (0 : Int) from e0)) ?_
          refine Rt_fb (T i r4 σ3 (by omega) (by omega) (HCl_v z h)) (fun r8 σ7 e => ?_)
          show r8.toInt = _
          rw [e.1, ← b2, q4]
    · refine Rt_f (i_nle (show (60 : Int) < _ by omega)) ?_
      show (-2 : Int32).toInt = r_rest n S D a1.toInt a2.toInt
      unfold r_rest; rw [if_pos c, if_neg (by omega)]; rfl
  by_cases e0 : a2.toInt = 0
  · exact Rt_t (i_eq (show _ = (0 : Int) from e0)) (core (by omega))
  refine Rt_f (i_ne (show _ ≠ (0 : Int) from e0)) ?_
  by_cases e1 : a2.toInt = 1
  · exact Rt_t (i_eq (show _ = (1 : Int) from e1)) (core (by omega))
  refine Rt_f (i_ne (show _ ≠ (1 : Int) from e1)) ?_
  show (-1 : Int32).toInt = r_rest n S D a1.toInt a2.toInt
  unfold r_rest; rw [if_neg (by omega)]; rfl
/-! what the class answers: stop, alone, odds, mean -/
theorem aHit_s {m j k : Nat} {f g : Nat → Int} {x : Int32} : aHit m f g (j + 1) k x = aHit m f g j (k + 1) (if k ≠ m ∧ g k < f k then x ||| ((1 : Int32) <<< (nI k &&& 31)) else x) := Eq.trans rfl rfl
theorem hitLC {n m : Nat} {f g : Nat → Int} {σ : Sg} {x1 : Int32} (n6 : n ≤ 6) (hn : (gi σ 33 1).toInt = (n : Int)) (hf : ∀ k, k < n → (gi σ 68 k).toInt = f k) (hg : ∀ k, k < n → (gi σ 36 k).toInt = g k) (h1 : x1.toInt = (m : Int)) : ∀ (i k N : Nat) (x2 x3 : Int32), i + k = n → i < N → x3.toInt = (k : Int) →
    LF_X11_hits N x1 x2 x3 σ = (aHit m f g i k x2, σ) := by
  intro i
  induction i with
  | zero =>
    intro k N x2 x3 hi hN h3
    obtain ⟨N, rfl⟩ : ∃ i, N = i + 1 := ⟨N - 1, by omega⟩
    show LB_X11_hits_4 (LF_X11_hits N) x1 x2 x3 σ = _
    unfold LB_X11_hits_4
    rw [if_pos (i_le (by omega))]; rfl
  | succ i ih =>
    intro k N x2 x3 hi hN h3
    obtain ⟨N, rfl⟩ : ∃ i, N = i + 1 := ⟨N - 1, by omega⟩
    have ex := cl_eq (x := x3) (by omega)
    have ep : x3.toNatClampNeg = k := by omega
    have e3 : x3 = nI k := by rw [← ep]; exact nI_ofI (by omega)
    have fk := hf k (by omega)
    have gk := hg k (by omega)
    show LB_X11_hits_4 (LF_X11_hits N) x1 x2 x3 σ = _
    unfold LB_X11_hits_4
    rw [if_neg (i_nle (by omega)), ep, aHit_s]
    have v8 : (x3 + 1).toInt = ((k + 1 : Nat) : Int) := by rw [i_inc (by omega)]; omega
    by_cases c : k = m
    · rw [if_pos (show x3 = x1 from i_eq (by omega)), if_neg (show ¬ (k ≠ m ∧ g k < f k) from fun z => z.1 c), fl_e]
      exact ih (k + 1) N x2 _ (by omega) (by omega) v8
    · rw [if_neg (show ¬ x3 = x1 from i_ne (by omega))]
      by_cases d : g k < f k
      · rw [if_neg (i_nle (by omega)), if_pos (show k ≠ m ∧ g k < f k from ⟨c, d⟩), fl_e, fl_e, ← e3]
        exact ih (k + 1) N _ _ (by omega) (by omega) v8
      · rw [if_pos (i_le (by omega)), if_neg (show ¬ (k ≠ m ∧ g k < f k) from fun z => d z.2), fl_e]
        exact ih (k + 1) N x2 _ (by omega) (by omega) v8
theorem bec68 : ∀ (k p N : Nat) (σ : Sg) (x2 : Int32), p + k = 6 → k < N → x2.toInt = (p : Int) → Ru (LF_X1_becomes 33 1 N x2 σ) (fun σ' => ∀ j, gi σ' 68 j = gi σ 68 j) := by
  intro k
  induction k with
  | zero =>
    intro p N σ x2 hp hN h2
    obtain ⟨N, rfl⟩ : ∃ i, N = i + 1 := ⟨N - 1, by omega⟩
    show Ru (LB_X1_becomes_42 33 1 (LF_X1_becomes 33 1 N) x2 σ) _
    unfold LB_X1_becomes_42
    refine Ru_t (i_le (show (6 : Int) ≤ _ by omega)) (Ru_fl (fun σ2 e2 => Ru_p (fun j => ?_)))
    rw [e2, gi_sia, if_neg (by decide +kernel)]
  | succ k ih =>
    intro p N σ x2 hp hN h2
    obtain ⟨N, rfl⟩ : ∃ i, N = i + 1 := ⟨N - 1, by omega⟩
    show Ru (LB_X1_becomes_42 33 1 (LF_X1_becomes 33 1 N) x2 σ) _
    unfold LB_X1_becomes_42
    refine Ru_f (i_nle (show _ < (6 : Int) by omega)) ?_
    refine Ru_fl (fun σ5 e5 => Ru_fl (fun σ9 e9 => Ru_fl (fun σ12 e12 => Ru_fl (fun σ15 e15 => Ru_fl (fun σ18 e18 => Ru_fl (fun σ21 e21 => Ru_fl (fun v22 e22 => ?_)))))))
    refine Ru_w (ih (p + 1) N σ21 v22 (by omega) (by omega) (by rw [e22, i_inc (by omega)]; omega)) (fun σ' h j => ?_)
    rw [h j, e21, gi_si_ne (Or.inl (by decide +kernel)), e18, gi_si_ne (Or.inl (by decide +kernel)), e15, gi_si_ne (Or.inl (by decide +kernel)), e12, gi_si_ne (Or.inl (by decide +kernel)), e9, gi_si_ne (Or.inl (by decide +kernel)), e5, gi_sr]
theorem st22C {n m r j : Nat} {K : Int} {S : Stc} {D : Dyn} {σ : Sg} {x1 x2 x3 x4 : Int32} (h : HCl n K S D σ) (h1 : x1.toInt = (m : Int)) (hm : m < n) (h2 : x2.toInt = (r : Int)) (hr : 1 ≤ r ∧ r ≤ 20) (h3 : x3.toInt = (j : Int)) (hj : 1 ≤ j ∧ j ≤ 60) : Rt (LF_X11_stop 9 x1 x2 x3 x4 σ) (fun q _ => ∃ u v : Int32, u.toInt = tot n (aMins S j D) ∧ v.toInt = tot n (aMins S j (aStp m r D)) ∧ q = if x4.toInt = 0 then u - v else aHit m (D_at (aMins S j D)) (D_at (aMins S j (aStp m r D))) n 0 0) := by
  obtain ⟨sb, db, hK, hrr, h99, cs, cd⟩ := id h
  have n6 := sb.1
  have ex := cl_eq (x := x1) (by omega)
  show Rt (LB_X11_stop_22 (LF_X11_stop 8) x1 x2 x3 x4 σ) _
  unfold LB_X11_stop_22
  refine Rt_f (i_nlt (show (1 : Int) ≤ _ by omega)) (Rt_f (i_nlt (show _ ≤ (20 : Int) by omega)) (Rt_f (i_nlt (show (1 : Int) ≤ _ by omega)) (Rt_t (i_le (show _ ≤ (60 : Int) by omega)) ?_)))
  rw [show x1.toNatClampNeg = m from by omega]
  refine Rt_fs (HCl_bec h) (fun σ5 ⟨s5, d5, f5⟩ => ?_)
  refine Rt_fs (gosC9 (c0 := 33) (by decide +kernel) sb h3 (by omega) (by omega) db s5 d5) (fun σ6 ⟨d6, f6⟩ => ?_)
  have s6 := CS_m (by decide +kernel) f6 s5
  have db6 := aMins_b sb j D K db
  obtain ⟨u, e, hu⟩ := allC n6 s6.1 db6 d6
  refine Rt_fe e ?_
  refine Rt_fl (fun σ9 e9 => ?_)
  have f9 : FXv σ6 σ9 := by rw [e9]; exact FX_sia FX_rf (Or.inr (by decide +kernel))
  have fA : FXv σ σ9 := FXv_tr f5 (FXv_tr (FXn_v f6) f9)
  have k68 : ∀ k, k < 6 → gi σ9 68 k = gi σ6 36 k := fun k hk => by rw [e9, gi_sia, if_pos rfl]; exact cpy_in _ _ hk
  have h9 := HCl_v fA h
  refine Rt_fs (Ru_and (HCl_bec h9) (show Ru (F_X1_becomes 33 1 σ9) (fun σ' => ∀ k, gi σ' 68 k = gi σ9 68 k) from ?_)) (fun σ10 ⟨⟨s10, d10, f10⟩, g10⟩ => ?_)
  · unfold F_X1_becomes
    refine Ru_fl (fun t1 e1 => Ru_fl (fun t2 e2 => Ru_fl (fun t3 e3 => ?_)))
    obtain ⟨f, gf, -⟩ := h9.2.2.2.2.2.1.2.2.2.2.2.1
    refine Ru_o (a := f) (by rw [e3, gr_si, e2, gr_si, e1, gr_si]; exact gf) ?_
    refine Ru_fl (fun t5 e5 => Ru_fl (fun t6 e6 => ?_))
    have w : ∀ k, gi t6 68 k = gi σ9 68 k := fun k => by rw [e6, gi_si_ne (Or.inl (by decide +kernel)), e5, gi_sr, e3, gi_si_ne (Or.inl (by decide +kernel)), e2, gi_si_ne (Or.inl (by decide +kernel)), e1, gi_si_ne (Or.inl (by decide +kernel))]
    exact Ru_w (bec68 6 0 9 t6 (0 : Int32) rfl (by decide +kernel) rfl) (fun σ' q k => (q k).trans (w k))
  refine Rt_fl (fun σ13 e13 => ?_)
  have s13 : CS 33 n S σ13 := by rw [e13]; exact CS_39 s10
  have d13 : CDy 33 n (aStp m r D) σ13 := by rw [e13]; exact stpC db hm h2 (by omega) d10
  have db13 := aStp_b (r := (r : Int)) db (h99 m hm) hm (by omega)
  refine Rt_fs (gosC9 (c0 := 33) (by decide +kernel) sb h3 (by omega) (by omega) db13 s13 d13) (fun σ14 ⟨d14, f14⟩ => ?_)
  have s14 := CS_m (by decide +kernel) f14 s13
  obtain ⟨v, ev, hv⟩ := allC n6 s14.1 (aMins_b sb j _ K db13) d14
  by_cases c : x4.toInt = 0
  · refine Rt_t (i_eq (show _ = (0 : Int) from c)) (Rt_fe ev ?_)
    exact ⟨u, v, hu, hv, by rw [if_pos c]⟩
  · refine Rt_f (i_ne (show _ ≠ (0 : Int) from c)) ?_
    have hh := hitLC (m := m) (f := D_at (aMins S j D)) (g := D_at (aMins S j (aStp m r D))) (σ := σ14) n6 s14.1 (fun k hk => by
      rw [FXn_i f14 (by omega), e13, gi_si_ne (Or.inl (by decide +kernel)), g10, k68 k (by omega)]
      exact d6.2.1 k hk) (fun k hk => d14.2.1 k hk) h1 n 0 9 (0 : Int32) (0 : Int32) (by omega) (by omega) rfl
    refine Rt_fe (show F_X11_hits x1 σ14 = _ from hh) ?_
    exact ⟨u, v, hu, hv, by rw [if_neg c]⟩
theorem stopC {n : Nat} {K : Int} {S : Stc} {D : Dyn} {σ : Sg} {a1 a2 a3 a4 : Int32} (h : HCl n K S D σ) : Rt (F_X11_stop a1 a2 a3 a4 σ) (fun q _ =>
    (∃ m r j : Nat, a1.toInt = (m : Int) ∧ m < n ∧ a2.toInt = (r : Int) ∧ (1 ≤ r ∧ r ≤ 20) ∧ a3.toInt = (j : Int) ∧ (1 ≤ j ∧ j ≤ 60) ∧ (0 ≤ a4.toInt ∧ a4.toInt ≤ 1) ∧ ∃ u v : Int32, u.toInt = tot n (aMins S j D) ∧ v.toInt = tot n (aMins S j (aStp m r D)) ∧ q = if a4.toInt = 0 then u - v else aHit m (D_at (aMins S j D)) (D_at (aMins S j (aStp m r D))) n 0 0)
      ∨ (((0 ≤ a1.toInt ∧ a1.toInt < (n : Int)) ∧ (0 ≤ a4.toInt ∧ a4.toInt ≤ 1)) ∧ ¬ ((1 ≤ a2.toInt ∧ a2.toInt ≤ 20) ∧ (1 ≤ a3.toInt ∧ a3.toInt ≤ 60)) ∧ q = (-100002 : Int32))
      ∨ (¬ ((0 ≤ a1.toInt ∧ a1.toInt < (n : Int)) ∧ (0 ≤ a4.toInt ∧ a4.toInt ≤ 1)) ∧ q = (-100001 : Int32))) := by
  have n6 := h.1.1
  have hn := h.2.2.2.2.2.1.1
  unfold F_X11_stop
  rw [isMC hn, fb_e]
  by_cases c1 : 0 ≤ a1.toInt ∧ a1.toInt < (n : Int)
  · rw [if_pos c1]
    refine Rt_f (by decide +kernel) ?_
    have core : 0 ≤ a4.toInt ∧ a4.toInt ≤ 1 → Rt (LF_X11_stop 9 a1 a2 a3 a4 σ) (fun q _ =>
      (∃ m r j : Nat, a1.toInt = (m : Int) ∧ m < n ∧ a2.toInt = (r : Int) ∧ (1 ≤ r ∧ r ≤ 20) ∧ a3.toInt = (j : Int) ∧ (1 ≤ j ∧ j ≤ 60) ∧ (0 ≤ a4.toInt ∧ a4.toInt ≤ 1) ∧ ∃ u v : Int32, u.toInt = tot n (aMins S j D) ∧ v.toInt = tot n (aMins S j (aStp m r D)) ∧ q = if a4.toInt = 0 then u - v else aHit m (D_at (aMins S j D)) (D_at (aMins S j (aStp m r D))) n 0 0)
      ∨ (((0 ≤ a1.toInt ∧ a1.toInt < (n : Int)) ∧ (0 ≤ a4.toInt ∧ a4.toInt ≤ 1)) ∧ ¬ ((1 ≤ a2.toInt ∧ a2.toInt ≤ 20) ∧ (1 ≤ a3.toInt ∧ a3.toInt ≤ 60)) ∧ q = (-100002 : Int32))
      ∨ (¬ ((0 ≤ a1.toInt ∧ a1.toInt < (n : Int)) ∧ (0 ≤ a4.toInt ∧ a4.toInt ≤ 1)) ∧ q = (-100001 : Int32))) := by
      intro c4
      by_cases g : (1 ≤ a2.toInt ∧ a2.toInt ≤ 20) ∧ (1 ≤ a3.toInt ∧ a3.toInt ≤ 60)
      · obtain ⟨j, hj⟩ : ∃ j : Nat, a3.toInt = (j : Int) := ⟨a3.toInt.toNat, by omega⟩
        obtain ⟨r, hr⟩ : ∃ r : Nat, a2.toInt = (r : Int) := ⟨a2.toInt.toNat, by omega⟩
        obtain ⟨m, hm⟩ : ∃ m : Nat, a1.toInt = (m : Int) := ⟨a1.toInt.toNat, by omega⟩
        exact Rt_w (st22C h hm (by omega) hr (by omega) hj (by omega)) (fun q σ' z => Or.inl ⟨m, r, j, hm, by omega, hr, by omega, hj, by omega, c4, z⟩)
      · have bad : Rt ((-100002 : Int32), σ) (fun q _ =>
          (∃ m r j : Nat, a1.toInt = (m : Int) ∧ m < n ∧ a2.toInt = (r : Int) ∧ (1 ≤ r ∧ r ≤ 20) ∧ a3.toInt = (j : Int) ∧ (1 ≤ j ∧ j ≤ 60) ∧ (0 ≤ a4.toInt ∧ a4.toInt ≤ 1) ∧ ∃ u v : Int32, u.toInt = tot n (aMins S j D) ∧ v.toInt = tot n (aMins S j (aStp m r D)) ∧ q = if a4.toInt = 0 then u - v else aHit m (D_at (aMins S j D)) (D_at (aMins S j (aStp m r D))) n 0 0)
          ∨ (((0 ≤ a1.toInt ∧ a1.toInt < (n : Int)) ∧ (0 ≤ a4.toInt ∧ a4.toInt ≤ 1)) ∧ ¬ ((1 ≤ a2.toInt ∧ a2.toInt ≤ 20) ∧ (1 ≤ a3.toInt ∧ a3.toInt ≤ 60)) ∧ q = (-100002 : Int32))
          ∨ (¬ ((0 ≤ a1.toInt ∧ a1.toInt < (n : Int)) ∧ (0 ≤ a4.toInt ∧ a4.toInt ≤ 1)) ∧ q = (-100001 : Int32))) := Rt_p (Or.inr (Or.inl ⟨⟨c1, c4⟩, g, rfl⟩))
        show Rt (LB_X11_stop_22 (LF_X11_stop 8) a1 a2 a3 a4 σ) _
        unfold LB_X11_stop_22
        by_cases d1 : a2.toInt < 1
        · exact Rt_t (i_lt (show _ < (1 : Int) from d1)) bad
        refine Rt_f (i_nlt (show (1 : Int) ≤ _ by omega)) ?_
        by_cases d2 : 20 < a2.toInt
        · exact Rt_t (i_lt (show (20 : Int) < _ from d2)) bad
        refine Rt_f (i_nlt (show _ ≤ (20 : Int) by omega)) ?_
        by_cases d3 : a3.toInt < 1
        · exact Rt_t (i_lt (show _ < (1 : Int) from d3)) bad
        refine Rt_f (i_nlt (show (1 : Int) ≤ _ by omega)) ?_
        exact Rt_f (i_nle (show (60 : Int) < _ by omega)) bad
    by_cases e0 : a4.toInt = 0
    · exact Rt_t (i_eq (show _ = (0 : Int) from e0)) (core (by omega))
    refine Rt_f (i_ne (show _ ≠ (0 : Int) from e0)) ?_
    by_cases e1 : a4.toInt = 1
    · exact Rt_t (i_eq (show _ = (1 : Int) from e1)) (core (by omega))
    refine Rt_f (i_ne (show _ ≠ (1 : Int) from e1)) (Rt_p (Or.inr (Or.inr ⟨fun z => by omega, rfl⟩)))
  · rw [if_neg c1]
    exact Rt_t rfl (Rt_p (Or.inr (Or.inr ⟨fun z => c1 z.1, rfl⟩)))
/-! alone -/
theorem CS_al {n m : Nat} {S : Stc} {σ : Sg} {x : Int32} (hx : x.toInt = (m : Int)) (h : CS 33 n S σ) : CS 33 n (sAl m S) (si (si σ 35 0 x) 33 3 (1 : Int32)) := by
  obtain ⟨h1, h2, h3, h4, h5, ⟨f, h6, h7, h8⟩, h9, h10⟩ := h
  have e : ∀ id k, ¬ (id = 33 ∧ k = 3) → ¬ (id = 35 ∧ k = 0) → gi (si (si σ 35 0 x) 33 3 (1 : Int32)) id k = gi σ id k := fun id k a b => by rw [gi_si_ne (by omega), gi_si_ne (by omega)]
  refine ⟨by rw [e 33 1 (by omega) (by omega)]; exact h1, by rw [gi_si_eq]; rfl, fun p hp => ?_, fun m hm => ?_, fun k hk => by rw [e (33 + 7) k (by omega) (by omega)]; exact h5 k hk, ⟨f, h6, h7, FdA_eq (fun id k a b => e id k (by omega) (by omega)) h8⟩, h9, by rw [e 33 11 (by omega) (by omega)]; exact h10⟩
  · have hp : p < 1 := hp
    obtain rfl : p = 0 := by omega
    rw [gi_si_ne (Or.inl (by decide +kernel)), gi_si_eq]; exact hx
  · obtain ⟨μ, κ, a1, a2, a3, a4, a5, a6, a7, a8⟩ := h4 m hm
    exact ⟨μ, κ, a1, a2, a3, a4, a5, by rw [e μ 0 (by omega) (by omega)]; exact a6, by rw [e μ 1 (by omega) (by omega)]; exact a7, by rw [e μ 2 (by omega) (by omega)]; exact a8⟩
theorem alnLC {n j : Nat} {K : Int} {S : Stc} {D : Dyn} {x1 : Int32} (h1 : x1.toInt = (j : Int)) (hj : j ≤ 60) : ∀ (i k N : Nat) (x2 x3 : Int32) (b : Int) (σ : Sg), i + k = n → i < N → x2.toInt = b → -9999 * (k : Int) ≤ b ∧ b ≤ 60000 → x3.toInt = (k : Int) → HCl n K S D σ →
    Rt (LF_X11_alone N x1 x2 x3 σ) (fun r _ => r.toInt = aAln (fun m => D_at (aMins (sAl m S) j D) m) i k b) := by
  intro i
  induction i with
  | zero =>
    intro k N x2 x3 b σ hi hN h2 hb h3 h
    have hn := h.2.2.2.2.2.1.1
    obtain ⟨N, rfl⟩ : ∃ i, N = i + 1 := ⟨N - 1, by omega⟩
    show Rt (LB_X11_alone_43 (LF_X11_alone N) x1 x2 x3 σ) _
    unfold LB_X11_alone_43
    refine Rt_t (i_le (by omega)) ?_
    exact h2
  | succ i ih =>
    intro k N x2 x3 b σ hi hN h2 hb h3 h
    have hn := h.2.2.2.2.2.1.1
    have n6 := h.1.1
    have hK := h.2.2.1
    obtain ⟨N, rfl⟩ : ∃ i, N = i + 1 := ⟨N - 1, by omega⟩
    have ex := cl_eq (x := x3) (by omega)
    have sa := SBd_al (m := k) h.1 (by omega)
    have vb := ((DBd_i.mp (aMins_b sa j D K h.2.1)).2.1) k (by omega)
    show Rt (LB_X11_alone_43 (LF_X11_alone N) x1 x2 x3 σ) (fun r _ => r.toInt = aAln (fun m => D_at (aMins (sAl m S) j D) m) i (k + 1) (b - D_at (aMins (sAl k S) j D) k))
    unfold LB_X11_alone_43
    refine Rt_f (i_nle (by omega)) ?_
    rw [show (0 : Int32).toNatClampNeg = 0 from rfl, show x3.toNatClampNeg = k from by omega]
    refine Rt_fs (HCl_bec h) (fun σ2 ⟨s2, d2, f2⟩ => ?_)
    refine Rt_fl (fun σ4 e4 => Rt_fl (fun σ5 e5 => ?_))
    have s5 : CS 33 n (sAl k S) σ5 := by rw [e5, e4]; exact CS_al h3 s2
    have d5 : CDy 33 n D σ5 := by rw [e5, e4]; exact CDy_eq (fun id j a => by rw [gi_si_ne (by omega), gi_si_ne (by omega)]) d2
    have f5 : FXv σ2 σ5 := by rw [e5, e4]; exact FX_si (FX_si FX_rf (Or.inl (Or.inl (by decide +kernel)))) (Or.inl (Or.inl (by decide +kernel)))
    refine Rt_fs (gosC9 (c0 := 33) (by decide +kernel) sa h1 hj (by omega) h.2.1 s5 d5) (fun σ6 ⟨d6, f6⟩ => ?_)
    have v : (gi σ6 36 k).toInt = D_at (aMins (sAl k S) j D) k := d6.2.1 k (by omega)
    refine Rt_fl (fun v8 e8 => Rt_fl (fun v9 e9 => ?_))
    exact ih (k + 1) N v8 v9 _ σ6 (by omega) (by omega) (by rw [e8, i_sub (by omega) (by omega), h2, v]) (by omega) (by rw [e9, i_inc (by omega)]; omega) (HCl_v (FXv_tr f2 (FXv_tr f5 (FXn_v f6))) h)
theorem aloneC {n : Nat} {K : Int} {S : Stc} {D : Dyn} {σ : Sg} {a1 : Int32} (h : HCl n K S D σ) : Rt (F_X11_alone a1 σ) (fun r _ => r.toInt = r_alone n S D a1.toInt) := by
  have n6 := h.1.1
  have hK := h.2.2.1
  unfold F_X11_alone
  by_cases d0 : a1.toInt < 1
  · refine Rt_t (i_lt (show _ < (1 : Int) from d0)) ?_
    show (-100002 : Int32).toInt = r_alone n S D a1.toInt
    unfold r_alone; rw [if_neg (by omega)]; rfl
  refine Rt_f (i_nlt (show (1 : Int) ≤ _ by omega)) ?_
  by_cases d1 : a1.toInt ≤ 60
  · refine Rt_t (i_le (show _ ≤ (60 : Int) from d1)) ?_
    obtain ⟨j, hj⟩ : ∃ j : Nat, a1.toInt = (j : Int) := ⟨a1.toInt.toNat, by omega⟩
    have ev : r_alone n S D a1.toInt = aAln (fun m => D_at (aMins (sAl m S) j D) m) n 0 (tot n (aMins S j D)) := by
      unfold r_alone; rw [if_pos (by omega), hj, show ((j : Int)).toNat = j from by omega]
    rw [ev]
    refine Rt_fs (HCl_bec h) (fun σ3 ⟨s3, d3, f3⟩ => ?_)
    refine Rt_fs (gosC9 (c0 := 33) (by decide +kernel) h.1 hj (by omega) (by omega) h.2.1 s3 d3) (fun σ4 ⟨d4, f4⟩ => ?_)
    obtain ⟨r, e, v⟩ := allC n6 (CS_m (by decide +kernel) f4 s3).1 (aMins_b h.1 j D K h.2.1) d4
    refine Rt_fe e ?_
    have tb := tot_b n6 (aMins_b h.1 j D K h.2.1)
    exact alnLC hj (by omega) n 0 9 r (0 : Int32) _ σ4 (by omega) (by omega) v (by omega) rfl (HCl_v (FXv_tr f3 (FXn_v f4)) h)
  · refine Rt_f (i_nle (show (60 : Int) < _ by omega)) ?_
    show (-100002 : Int32).toInt = r_alone n S D a1.toInt
    unfold r_alone; rw [if_neg (by omega)]; rfl
/-! odds, mean -/
theorem lowLC {x0 x1 x2 : Int32} {σ : Sg} : ∀ (q : Nat) (N p r : Nat) (x3 x4 x5 : Int32), x3.toInt = (p : Int) → x4.toInt = (q : Int) → x5.toInt = (r : Int) → 2 * q + 2 ≤ N → q + r < 100 → 1 ≤ p → ∃ g : Int32, g.toInt = (Nat.gcd p q : Int) ∧ LF_X11_lowest N 0 x0 x1 x2 x3 x4 x5 σ = (lwV x0 x1 x2 g, σ) := by
  intro q
  induction q using Nat.strongRecOn with
  | ind q ih =>
    intro N p r x3 x4 x5 h3 h4 h5 hN hr hp
    obtain ⟨N, rfl⟩ : ∃ i, N = i + 2 := ⟨N - 2, by omega⟩
    have fin : ∀ (M : Nat), ∃ g : Int32, g.toInt = (p : Int) ∧ LF_X11_lowest (M + 1) 1 x0 x1 x2 x3 0 0 σ = (lwV x0 x1 x2 g, σ) := by
      intro M
      refine ⟨x3, h3, ?_⟩
      show LB_X11_lowest_39 (LF_X11_lowest M) x0 x1 x2 x3 σ = _
      unfold LB_X11_lowest_39 lwV
      rw [if_pos (i_le (show (1 : Int) ≤ _ by omega))]
      by_cases d : x2.toInt = 0
      · rw [if_pos (i_eq (show _ = (0 : Int) from d)), if_pos d]
      · rw [if_neg (i_ne (show _ ≠ (0 : Int) from d)), if_neg d]
    show ∃ g : Int32, _ ∧ LB_X11_lowest_8 (LF_X11_lowest (N + 1)) x0 x1 x2 x3 x4 x5 σ = _
    unfold LB_X11_lowest_8
    rw [if_neg (i_nle (show _ < (100 : Int) by omega))]
    by_cases c : q = 0
    · subst c
      rw [if_pos (i_le (show _ ≤ (0 : Int) by omega)), Nat.gcd_zero_right]
      exact fin N
    · have m : (x3 - x3 / x4 * x4).toInt = ((p % q : Nat) : Int) := by rw [i_rem (k := (q : Int)) (by omega) (by omega) h4, h3]; omega
      have lt := Nat.mod_lt p (show 0 < q by omega)
      rw [if_neg (i_nle (show (0 : Int) < _ by omega)), fl_e, fl_e, Nat.gcd_comm p q, Nat.gcd_rec q p, Nat.gcd_comm (p % q) q]
      exact ih (p % q) lt (N + 1) q (r + 1) x4 _ _ h4 m (by rw [i_inc (by omega)]; omega) (by omega) (by omega) (by omega)
theorem lowC {a b c : Int32} {p q : Nat} {σ : Sg} (ha : a.toInt = (p : Int)) (hb : b.toInt = (q : Int)) (h6 : q ≤ 6) (h1 : 1 ≤ q) (hp : p ≤ 100000) : ∃ g : Int32, g.toInt = (Nat.gcd p q : Int) ∧ F_X11_lowest a b c σ = (lwV a b c g, σ) := by
  unfold F_X11_lowest
  by_cases c0 : p ≤ 90
  · obtain ⟨g, g1, g2⟩ := lowLC (x0 := a) (x1 := b) (x2 := c) (σ := σ) p 200 q 0 b a (0 : Int32) hb ha rfl (by omega) (by omega) h1
    exact ⟨g, by rw [g1, Nat.gcd_comm], g2⟩
  · show ∃ g : Int32, _ ∧ LB_X11_lowest_8 (LF_X11_lowest 199) a b c b a (0 : Int32) σ = _
    unfold LB_X11_lowest_8
    have m : (b - b / a * a).toInt = ((q % p : Nat) : Int) := by rw [i_rem (k := (p : Int)) (by omega) (by omega) ha, hb]; omega
    have md : q % p = q := Nat.mod_eq_of_lt (by omega)
    rw [md] at m
    rw [if_neg (show ¬ (100 : Int32) ≤ (0 : Int32) by decide +kernel), if_neg (i_nle (show (0 : Int) < _ by omega)), fl_e, fl_e]
    obtain ⟨g, g1, g2⟩ := lowLC (x0 := a) (x1 := b) (x2 := c) (σ := σ) q 199 p 1 a _ ((0 : Int32) + 1) ha m rfl (by omega) (by omega) (by omega)
    exact ⟨g, g1, g2⟩
theorem meanC {n : Nat} {K : Int} {S : Stc} {D : Dyn} {σ : Sg} {a1 a2 : Int32} (h : HCl n K S D σ) : Rt (F_X11_mean a1 a2 σ) (fun r _ =>
    (∃ j : Nat, a1.toInt = (j : Int) ∧ (1 ≤ j ∧ j ≤ 60) ∧ (0 ≤ a2.toInt ∧ a2.toInt ≤ 1) ∧ n ≠ 0 ∧ ∃ u g : Int32, u.toInt = tot n (aMins S j D) ∧ g.toInt = (Nat.gcd (tot n (aMins S j D)).toNat n : Int) ∧ r = lwV u (nI n) a2 g)
      ∨ (¬ ((1 ≤ a1.toInt ∧ a1.toInt ≤ 60) ∧ (0 ≤ a2.toInt ∧ a2.toInt ≤ 1) ∧ n ≠ 0) ∧ r = (-9223372036854775808 : Int64))) := by
  obtain ⟨sb, db, hK, hrr, h99, cs, cd⟩ := id h
  have n6 := sb.1
  have hn := cs.1
  unfold F_X11_mean
  by_cases c0 : n = 0
  · exact Rt_t (i_eq (show _ = (0 : Int) by omega)) (Rt_p (Or.inr ⟨fun z => z.2.2 c0, rfl⟩))
  refine Rt_f (i_ne (show _ ≠ (0 : Int) by omega)) ?_
  by_cases d0 : a1.toInt < 1
  · exact Rt_t (i_lt (show _ < (1 : Int) from d0)) (Rt_p (Or.inr ⟨fun z => by omega, rfl⟩))
  refine Rt_f (i_nlt (show (1 : Int) ≤ _ by omega)) ?_
  by_cases d1 : 60 < a1.toInt
  · exact Rt_t (i_lt (show (60 : Int) < _ from d1)) (Rt_p (Or.inr ⟨fun z => by omega, rfl⟩))
  refine Rt_f (i_nlt (show _ ≤ (60 : Int) by omega)) ?_
  obtain ⟨j, hj⟩ : ∃ j : Nat, a1.toInt = (j : Int) := ⟨a1.toInt.toNat, by omega⟩
  have core : 0 ≤ a2.toInt ∧ a2.toInt ≤ 1 → Rt (LF_X11_mean 9 a1 a2 σ) (fun r _ =>
    (∃ j : Nat, a1.toInt = (j : Int) ∧ (1 ≤ j ∧ j ≤ 60) ∧ (0 ≤ a2.toInt ∧ a2.toInt ≤ 1) ∧ n ≠ 0 ∧ ∃ u g : Int32, u.toInt = tot n (aMins S j D) ∧ g.toInt = (Nat.gcd (tot n (aMins S j D)).toNat n : Int) ∧ r = lwV u (nI n) a2 g)
      ∨ (¬ ((1 ≤ a1.toInt ∧ a1.toInt ≤ 60) ∧ (0 ≤ a2.toInt ∧ a2.toInt ≤ 1) ∧ n ≠ 0) ∧ r = (-9223372036854775808 : Int64))) := by
    intro c
    show Rt (LB_X11_mean_34 (LF_X11_mean 8) a1 a2 σ) _
    unfold LB_X11_mean_34
    refine Rt_fs (HCl_bec h) (fun σ1 ⟨s1, d1, f1⟩ => ?_)
    refine Rt_fs (gosC9 (c0 := 33) (by decide +kernel) sb hj (by omega) (by omega) db s1 d1) (fun σ2 ⟨d2, f2⟩ => ?_)
    have b2 := aMins_b sb j D K db
    obtain ⟨u, e, v⟩ := allC n6 (CS_m (by decide +kernel) f2 s1).1 b2 d2
    refine Rt_fe e ?_
    have tb := tot_b n6 b2
    have e11 : gi σ2 1 1 = nI n := by
      rw [FXn_i f2 (by omega), FXv_i f1 (by omega)]
      exact i_eq (by rw [hn, nI_toInt (by omega)])
    have v : u.toInt = tot n (aMins S j D) := v
    obtain ⟨g, g1, g2⟩ := lowC (a := u) (b := gi σ2 1 1) (c := a2) (p := (tot n (aMins S j D)).toNat) (q := n) (σ := σ2) (by omega) (by rw [e11, nI_toInt (by omega)]) n6 (by omega) (by omega)
    exact Rt_fe g2 (Rt_p (Or.inl ⟨j, hj, by omega, c, c0, u, g, v, g1, by rw [e11]⟩))
  by_cases e0 : a2.toInt = 0
  · exact Rt_t (i_eq (show _ = (0 : Int) from e0)) (core (by omega))
  refine Rt_f (i_ne (show _ ≠ (0 : Int) from e0)) ?_
  by_cases e1 : a2.toInt = 1
  · exact Rt_t (i_eq (show _ = (1 : Int) from e1)) (core (by omega))
  refine Rt_f (i_ne (show _ ≠ (1 : Int) from e1)) (Rt_p (Or.inr ⟨fun z => by omega, rfl⟩))
theorem oddLC {n m j : Nat} {K : Int} {S : Stc} {D : Dyn} {x1 x2 x3 : Int32} (si0 : SInj S) (h1 : x1.toInt = (m : Int)) (hm : m < n) (h2 : x2.toInt = (j : Int)) (hj : j ≤ 60) : ∀ (i k N : Nat) (x4 x5 : Int32) (b : Nat) (σ : Sg), i + k = n → i < N → x4.toInt = (b : Int) → b ≤ k → x5.toInt = (k : Int) → HCl n K S D σ →
    Rt (LF_X11_odds N x1 x2 x3 x4 x5 σ) (fun r _ => ∃ u g : Int32, u.toInt = (aOd (fun o => aHel S j (aStp o 5 D) m) i k b : Int) ∧ g.toInt = (Nat.gcd (aOd (fun o => aHel S j (aStp o 5 D) m) i k b) n : Int) ∧ r = lwV u (nI n) x3 g) := by
  intro i
  induction i with
  | zero =>
    intro k N x4 x5 b σ hi hN h4 hb h5 h
    have hn := h.2.2.2.2.2.1.1
    have n6 := h.1.1
    obtain ⟨N, rfl⟩ : ∃ i, N = i + 1 := ⟨N - 1, by omega⟩
    show Rt (LB_X11_odds_38 (LF_X11_odds N) x1 x2 x3 x4 x5 σ) _
    unfold LB_X11_odds_38
    refine Rt_t (i_le (by omega)) ?_
    have e0 : gi σ 1 1 = nI n := i_eq (by rw [hn, nI_toInt (by omega)])
    obtain ⟨g, g1, g2⟩ := lowC (a := x4) (b := gi σ 1 1) (c := x3) (p := b) (q := n) (σ := σ) h4 (by rw [e0, nI_toInt (by omega)]) n6 (by omega) (by omega)
    exact Rt_fe g2 (Rt_p ⟨x4, g, h4, g1, by rw [e0]⟩)
  | succ i ih =>
    intro k N x4 x5 b σ hi hN h4 hb h5 h
    obtain ⟨sb, db, hK, hrr, h99, cs, cd⟩ := id h
    have hn := cs.1
    have n6 := sb.1
    obtain ⟨N, rfl⟩ : ∃ i, N = i + 1 := ⟨N - 1, by omega⟩
    have ex := cl_eq (x := x5) (by omega)
    have ex1 := cl_eq (x := x1) (by omega)
    have e1 : x1 = nI m := by rw [show m = x1.toNatClampNeg from by omega]; exact nI_ofI (by omega)
    show Rt (LB_X11_odds_38 (LF_X11_odds N) x1 x2 x3 x4 x5 σ) (fun r _ => ∃ u g : Int32, u.toInt = (aOd (fun o => aHel S j (aStp o 5 D) m) i (k + 1) (if 0 < aHel S j (aStp k 5 D) m then b + 1 else b) : Int) ∧ g.toInt = (Nat.gcd (aOd (fun o => aHel S j (aStp o 5 D) m) i (k + 1) (if 0 < aHel S j (aStp k 5 D) m then b + 1 else b)) n : Int) ∧ r = lwV u (nI n) x3 g)
    unfold LB_X11_odds_38
    refine Rt_f (i_nle (by omega)) ?_
    rw [show x5.toNatClampNeg = k from by omega]
    refine Rt_fs (HCl_bec h) (fun σ4 ⟨s4, d4, f4⟩ => ?_)
    refine Rt_fl (fun σ7 e7 => ?_)
    have s7 : CS 33 n S σ7 := by rw [e7]; exact CS_39 s4
    have d7 : CDy 33 n (aStp k 5 D) σ7 := by rw [e7]; exact stpC db (by omega) rfl (by decide +kernel) d4
    have f7 : FXv σ4 σ7 := by rw [e7]; exact FX_si FX_rf (Or.inl (Or.inl (by decide +kernel)))
    have db7 := aStp_b (r := 5) db (h99 k (by omega)) (by omega) (by decide +kernel)
    have H : Rt (F_X11_heldTimes x1 x2 σ7) (fun r σ' => r.toInt = aHel S j (aStp k 5 D) m ∧ FXv σ7 σ') := by
      unfold F_X11_heldTimes
      exact Rt_w (hlLC sb si0 hm e1 j 90 x2 (0 : Int32) (0 : Int32) 0 _ K σ7 (by rw [h2]; show _ = (0 : Int) + _; omega) (by omega) (by omega) (by decide +kernel) rfl (by decide +kernel) (by omega) db7 s7 d7) (fun r σ' q => ⟨q.1.trans (Int.zero_add _), q.2⟩)
    refine Rt_fb H (fun r9 σ8 ⟨t, f8⟩ => ?_)
    have fA : FXv σ σ8 := FXv_tr f4 (FXv_tr f7 f8)
    by_cases c : 0 < aHel S j (aStp k 5 D) m
    · rw [if_pos c]
      refine Rt_f (i_nle (show (0 : Int) < _ by omega)) ?_
      refine Rt_fl (fun v12 e12 => Rt_fl (fun v13 e13 => ?_))
      exact ih (k + 1) N v12 v13 (b + 1) σ8 (by omega) (by omega) (by rw [e12, i_inc (by omega)]; omega) (by omega) (by rw [e13, i_inc (by omega)]; omega) (HCl_v fA h)
    · rw [if_neg c]
      refine Rt_t (i_le (show _ ≤ (0 : Int) by omega)) ?_
      refine Rt_fl (fun v13 e13 => ?_)
      exact ih (k + 1) N x4 v13 b σ8 (by omega) (by omega) h4 (by omega) (by rw [e13, i_inc (by omega)]; omega) (HCl_v fA h)
theorem oddsC {n : Nat} {K : Int} {S : Stc} {D : Dyn} {σ : Sg} {a1 a2 a3 : Int32} (h : HCl n K S D σ) (si0 : SInj S) : Rt (F_X11_odds a1 a2 a3 σ) (fun r _ =>
    (∃ m j : Nat, a1.toInt = (m : Int) ∧ m < n ∧ a2.toInt = (j : Int) ∧ (1 ≤ j ∧ j ≤ 60) ∧ (0 ≤ a3.toInt ∧ a3.toInt ≤ 1) ∧ ∃ u g : Int32, u.toInt = (aOd (fun o => aHel S j (aStp o 5 D) m) n 0 0 : Int) ∧ g.toInt = (Nat.gcd (aOd (fun o => aHel S j (aStp o 5 D) m) n 0 0) n : Int) ∧ r = lwV u (nI n) a3 g)
      ∨ (¬ ((0 ≤ a1.toInt ∧ a1.toInt < (n : Int)) ∧ (1 ≤ a2.toInt ∧ a2.toInt ≤ 60) ∧ (0 ≤ a3.toInt ∧ a3.toInt ≤ 1)) ∧ r = (-9223372036854775808 : Int64))) := by
  have n6 := h.1.1
  have hn := h.2.2.2.2.2.1.1
  unfold F_X11_odds
  rw [isMC hn, fb_e]
  by_cases c1 : 0 ≤ a1.toInt ∧ a1.toInt < (n : Int)
  · rw [if_pos c1]
    refine Rt_f (by decide +kernel) ?_
    by_cases d0 : a2.toInt < 1
    · exact Rt_t (i_lt (show _ < (1 : Int) from d0)) (Rt_p (Or.inr ⟨fun z => by omega, rfl⟩))
    refine Rt_f (i_nlt (show (1 : Int) ≤ _ by omega)) ?_
    by_cases d1 : 60 < a2.toInt
    · exact Rt_t (i_lt (show (60 : Int) < _ from d1)) (Rt_p (Or.inr ⟨fun z => by omega, rfl⟩))
    refine Rt_f (i_nlt (show _ ≤ (60 : Int) by omega)) ?_
    obtain ⟨j, hj⟩ : ∃ j : Nat, a2.toInt = (j : Int) := ⟨a2.toInt.toNat, by omega⟩
    obtain ⟨m, hm⟩ : ∃ m : Nat, a1.toInt = (m : Int) := ⟨a1.toInt.toNat, by omega⟩
    have core : 0 ≤ a3.toInt ∧ a3.toInt ≤ 1 → Rt (LF_X11_odds 9 a1 a2 a3 (0 : Int32) (0 : Int32) σ) (fun r _ =>
      (∃ m j : Nat, a1.toInt = (m : Int) ∧ m < n ∧ a2.toInt = (j : Int) ∧ (1 ≤ j ∧ j ≤ 60) ∧ (0 ≤ a3.toInt ∧ a3.toInt ≤ 1) ∧ ∃ u g : Int32, u.toInt = (aOd (fun o => aHel S j (aStp o 5 D) m) n 0 0 : Int) ∧ g.toInt = (Nat.gcd (aOd (fun o => aHel S j (aStp o 5 D) m) n 0 0) n : Int) ∧ r = lwV u (nI n) a3 g)
      ∨ (¬ ((0 ≤ a1.toInt ∧ a1.toInt < (n : Int)) ∧ (1 ≤ a2.toInt ∧ a2.toInt ≤ 60) ∧ (0 ≤ a3.toInt ∧ a3.toInt ≤ 1)) ∧ r = (-9223372036854775808 : Int64))) := by
      intro c
      exact Rt_w (oddLC si0 hm (by omega) hj (by omega) n 0 9 (0 : Int32) (0 : Int32) 0 σ (by omega) (by omega) rfl (by omega) rfl h) (fun r σ' z => Or.inl ⟨m, j, hm, by omega, hj, by omega, c, z⟩)
    by_cases e0 : a3.toInt = 0
    · exact Rt_t (i_eq (show _ = (0 : Int) from e0)) (core (by omega))
    refine Rt_f (i_ne (show _ ≠ (0 : Int) from e0)) ?_
    by_cases e1 : a3.toInt = 1
    · exact Rt_t (i_eq (show _ = (1 : Int) from e1)) (core (by omega))
    refine Rt_f (i_ne (show _ ≠ (1 : Int) from e1)) (Rt_p (Or.inr ⟨fun z => by omega, rfl⟩))
  · rw [if_neg c1]
    exact Rt_t rfl (Rt_p (Or.inr ⟨fun z => c1 z.1, rfl⟩))
/-! the same answers: on, done, whets, apart, rest, paused, stop, alone, odds, mean -/
theorem HXC {V : Vx} {σ σ1 : Sg} (q : RELM σ) (hI : INV V σ) (f : MA σ σ1) : ∃ (n : Nat) (S : Stc) (D : Dyn), HCl n 9999 S D σ ∧ HMo n 9999 S D σ1 ∧ SInj S := by
  obtain ⟨n, S, D, hn, hm, cs, cd, hln, -⟩ := HX q.1 q.2 hI
  have hc := q.1.1.1.1
  refine ⟨n, S, D, ⟨hm.1, hm.2.1, hm.2.2.1, hm.2.2.2.1, hm.2.2.2.2.1, cs, cd⟩, HMo_ma f hm, ?_⟩
  have n6 := hm.1.1
  have sr := hm.2.2.2.1
  intro p q' hp hq e
  rw [sr] at hp hq
  refine surj_inj (n := n) (f := S_ln S) (fun m hm' => ?_) hp hq e
  obtain ⟨k, hk, e2⟩ := hI.2.2.2.2.1 m (by omega)
  exact ⟨k, by omega, by rw [hln k (by omega), e2]; exact nI_clamp (by omega)⟩
theorem A_on {V : Vx} {a1 a2 r1 r2 : Int32} {σ σ1 σ2 : Sg} (q : RELM σ) (hI : INV V σ) (f : MA σ σ1) (h1 : F_X11_on a1 a2 σ = (r1, σ1)) (h2 : F_X12_on a1 a2 σ1 = (r2, σ2)) : r1 = r2 := by
  obtain ⟨n, S, D, c, m, si⟩ := HXC q hI f
  have A := Rt_of (onC (a1 := a1) (a2 := a2) c si) h1
  have B := Rt_of (onM (a1 := a1) (a2 := a2) m) h2
  exact i_eq (A.trans B.1.symm)
theorem A_done {V : Vx} {r1 r2 : Int32} {σ σ1 σ2 : Sg} (q : RELM σ) (hI : INV V σ) (f : MA σ σ1) (h1 : F_X11_done σ = (r1, σ1)) (h2 : F_X12_done σ1 = (r2, σ2)) : r1 = r2 := by
  obtain ⟨n, S, D, c, m, si⟩ := HXC q hI f
  have A := Rt_of (doneC c) h1
  have B := Rt_of (doneM m) h2
  exact i_eq (A.trans B.1.symm)
theorem A_whets {V : Vx} {a1 a2 r1 r2 : Int32} {σ σ1 σ2 : Sg} (q : RELM σ) (hI : INV V σ) (f : MA σ σ1) (h1 : F_X11_whets a1 a2 σ = (r1, σ1)) (h2 : F_X12_whets a1 a2 σ1 = (r2, σ2)) : r1 = r2 := by
  obtain ⟨n, S, D, c, m, si⟩ := HXC q hI f
  have A := Rt_of (whetsC (a1 := a1) (a2 := a2) c) h1
  have B := Rt_of (whetsM (a1 := a1) (a2 := a2) m) h2
  exact i_eq (A.trans B.1.symm)
theorem A_apart {V : Vx} {a1 a2 r1 r2 : Int32} {σ σ1 σ2 : Sg} (q : RELM σ) (hI : INV V σ) (f : MA σ σ1) (h1 : F_X11_apart a1 a2 σ = (r1, σ1)) (h2 : F_X12_apart a1 a2 σ1 = (r2, σ2)) : r1 = r2 := by
  obtain ⟨n, S, D, c, m, si⟩ := HXC q hI f
  have A := Rt_of (apartC (a1 := a1) (a2 := a2) c) h1
  have B := Rt_of (apartM (a1 := a1) (a2 := a2) m ((f 74 (by decide +kernel) (by decide +kernel) 28).trans q.2.2.2.2.2.2.1)) h2
  exact i_eq (A.trans B.1.symm)
theorem A_rest {V : Vx} {a1 a2 r1 r2 : Int32} {σ σ1 σ2 : Sg} (q : RELM σ) (hI : INV V σ) (f : MA σ σ1) (h1 : F_X11_rest a1 a2 σ = (r1, σ1)) (h2 : F_X12_rest a1 a2 σ1 = (r2, σ2)) : r1 = r2 := by
  obtain ⟨n, S, D, c, m, si⟩ := HXC q hI f
  have A := Rt_of (restCa (a1 := a1) (a2 := a2) c) h1
  have B := Rt_of (restM (a1 := a1) (a2 := a2) m) h2
  exact i_eq (A.trans B.1.symm)
theorem A_paused {V : Vx} {a1 a2 r1 r2 : Int32} {σ σ1 σ2 : Sg} (q : RELM σ) (hI : INV V σ) (f : MA σ σ1) (h1 : F_X11_paused a1 a2 σ = (r1, σ1)) (h2 : F_X12_paused a1 a2 σ1 = (r2, σ2)) : r1 = r2 := by
  obtain ⟨n, S, D, c, m, si⟩ := HXC q hI f
  have A := Rt_of (pausedC (a1 := a1) (a2 := a2) c) h1
  have B := Rt_of (pausedM (a1 := a1) (a2 := a2) m) h2
  exact i_eq (A.trans B.1.symm)
theorem A_alone {V : Vx} {a1 r1 r2 : Int32} {σ σ1 σ2 : Sg} (q : RELM σ) (hI : INV V σ) (f : MA σ σ1) (h1 : F_X11_alone a1 σ = (r1, σ1)) (h2 : F_X12_alone a1 σ1 = (r2, σ2)) : r1 = r2 := by
  obtain ⟨n, S, D, c, m, si⟩ := HXC q hI f
  have A := Rt_of (aloneC (a1 := a1) c) h1
  have B := Rt_of (aloneM (a1 := a1) m) h2
  exact i_eq (A.trans B.1.symm)
theorem A_stop {V : Vx} {a1 a2 a3 a4 r1 r2 : Int32} {σ σ1 σ2 : Sg} (q : RELM σ) (hI : INV V σ) (f : MA σ σ1) (h1 : F_X11_stop a1 a2 a3 a4 σ = (r1, σ1)) (h2 : F_X12_stop a1 a2 a3 a4 σ1 = (r2, σ2)) : r1 = r2 := by
  obtain ⟨n, S, D, c, m, si⟩ := HXC q hI f
  have A := Rt_of (stopC (a1 := a1) (a2 := a2) (a3 := a3) (a4 := a4) c) h1
  have B := Rt_of (stopM (a1 := a1) (a2 := a2) (a3 := a3) (a4 := a4) m) h2
  rcases A with ⟨m1, x1, j1, p1, p2, p3, p4, p5, p6, p7, u, v, u1, v1, e⟩ | ⟨p1, p2, e⟩ | ⟨p1, e⟩ <;> rcases B.1 with ⟨m2, x2, j2, s1, s2, s3, s4, s5, s6, s7, u', v', u2, v2, e'⟩ | ⟨s1, s2, e'⟩ | ⟨s1, e'⟩
  · obtain rfl : m1 = m2 := by omega
    obtain rfl : x1 = x2 := by omega
    obtain rfl : j1 = j2 := by omega
    rw [e, e', i_eq (u1.trans u2.symm), i_eq (v1.trans v2.symm)]
  · exfalso; omega
  · exfalso; omega
  · exfalso; omega
  · rw [e, e']
  · exact absurd p1 s1
  · exfalso; omega
  · exact absurd s1 p1
  · rw [e, e']
theorem A_mean {V : Vx} {a1 a2 : Int32} {r1 r2 : Int64} {σ σ1 σ2 : Sg} (q : RELM σ) (hI : INV V σ) (f : MA σ σ1) (h1 : F_X11_mean a1 a2 σ = (r1, σ1)) (h2 : F_X12_mean a1 a2 σ1 = (r2, σ2)) : r1 = r2 := by
  obtain ⟨n, S, D, c, m, si⟩ := HXC q hI f
  have A := Rt_of (meanC (a1 := a1) (a2 := a2) c) h1
  have B := Rt_of (meanM (a1 := a1) (a2 := a2) m) h2
  rcases A with ⟨j1, p1, p2, p3, p4, u, g, u1, g1, e⟩ | ⟨p1, e⟩ <;> rcases B.1 with ⟨j2, s1, s2, s3, s4, u', g', u2, g2, e'⟩ | ⟨s1, e'⟩
  · obtain rfl : j1 = j2 := by omega
    rw [e, e', i_eq (u1.trans u2.symm), i_eq (g1.trans g2.symm)]
  · exact absurd ⟨by omega, p3, p4⟩ s1
  · exact absurd ⟨by omega, s3, s4⟩ p1
  · rw [e, e']
theorem A_odds {V : Vx} {a1 a2 a3 : Int32} {r1 r2 : Int64} {σ σ1 σ2 : Sg} (q : RELM σ) (hI : INV V σ) (f : MA σ σ1) (h1 : F_X11_odds a1 a2 a3 σ = (r1, σ1)) (h2 : F_X12_odds a1 a2 a3 σ1 = (r2, σ2)) : r1 = r2 := by
  obtain ⟨n, S, D, c, m, si⟩ := HXC q hI f
  have A := Rt_of (oddsC (a1 := a1) (a2 := a2) (a3 := a3) c si) h1
  have B := Rt_of (oddsM (a1 := a1) (a2 := a2) (a3 := a3) m) h2
  rcases A with ⟨m1, j1, p0, p5, p1, p2, p3, u, g, u1, g1, e⟩ | ⟨p1, e⟩ <;> rcases B.1 with ⟨m2, j2, s0, s5, s1, s2, s3, u', g', u2, g2, e'⟩ | ⟨s1, e'⟩
  · obtain rfl : m1 = m2 := by omega
    obtain rfl : j1 = j2 := by omega
    rw [e, e', i_eq (u1.trans u2.symm), i_eq (g1.trans g2.symm)]
  · exact absurd ⟨by omega, by omega, p3⟩ s1
  · exact absurd ⟨by omega, by omega, s3⟩ p1
  · rw [e, e']
