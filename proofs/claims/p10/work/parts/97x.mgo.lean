/-! a minute in the model: whoever is at a place goes on -/
theorem lineM {n p : Nat} {S : Stc} {σ : Sg} (hs : MT n S σ) (hp : p < S_r S) : (gi σ 110 p).toNatClampNeg = S_ln S p := by
  have l := hs.2.1 p hp
  have := cl_eq (x := gi σ 110 p) (by omega)
  omega
theorem FXd_si {n : Nat} {σ σ1 : Sg} {a k : Nat} {v : Int32} (f : FXd n σ σ1) (h : 105 ≤ a ∧ a ≤ 108 ∧ k < n) : FXd n σ (si σ1 a k v) := FX_si f (Or.inr h)
theorem FXd_rf {n : Nat} {σ : Sg} : FXd n σ σ := FX_rf
set_option maxHeartbeats 4000000 in
theorem go82M {n p m : Nat} {K s : Int} {S : Stc} {D : Dyn} {σ : Sg} {x1 x2 z : Int32} (sb : SBd n S) (db : DBd n K D) (hs : MT n S σ) (hd : MDy n D σ) (hx : x1.toNatClampNeg = p) (hp : p < S_r S) (hst : (gi σ 131 p).toInt = s) (sb2 : 0 ≤ s ∧ s ≤ 1007) (em : m = S_ln S p) (h2 : x2.toNatClampNeg = m)
    (hz : z.toInt = (if p = 0 then 9999 else mnI 9999 (D_at D (S_ln S (p - 1)) - S_gp S))) (c : ¬ 0 < D_st D m) :
    Rt (LF_X12_goes 9 0 x1 x2 z 0 σ) (fun r σ' => r = (if aHd S s D p = true then 1 else 0) ∧ MDy n (aGo S s D p) σ' ∧ FXd n σ σ') := by
  have hm : m < n := by rw [em]; exact sb.2.2.1 p hp
  obtain ⟨u1, u2, u3, u4⟩ := db.2 m hm
  obtain ⟨d1, d2, d3, d4, d5⟩ := hd
  have a2 := d2 m hm
  have a3 := d3 m hm
  have a4 := d4 m hm
  have a5 := d5 m hm
  have tb := sb.2.2.2.2.2.2.1
  have gb := sb.2.2.2.2.2.1
  have fb9 := aFar_b (s := s) sb db hp
  rw [← em] at fb9
  show Rt (LB_X12_goes_82 (LF_X12_goes 8) x1 x2 z σ) _
  unfold LB_X12_goes_82
  rw [hx, h2]
  have sm : (gi σ 105 m + gi σ 131 p).toInt = D_at D m + s := by rw [i_add (by omega) (by omega), a2, hst]
  obtain ⟨r5, l1, l2⟩ := lst (σ := σ) hz sm
  refine Rt_fe l1 ?_
  obtain ⟨r7, n1, n2⟩ := mst (σ := σ) a2 l2
  refine Rt_fe n1 ?_
  have far : r7.toInt = D_at D m + aFar S s D p := by
    rw [n2]
    unfold aFar pos0
    rw [← em]
    by_cases q : p = 0
    · rw [if_pos q, if_pos q]
      unfold mnI
      repeat' split
      all_goals omega
    · rw [if_neg q, if_neg q]
      unfold mnI
      repeat' split
      all_goals omega
  refine Rt_fl (fun v9 e9 => ?_)
  have v9i : v9.toInt = aFar S s D p := by rw [e9, i_sub (by omega) (by omega), far, a2]; omega
  have fin : ∀ σ' : Sg, gi σ' 131 p = gi σ 131 p → MDy n (aGo S s D p) σ' → FXd n σ σ' → Rt (LF_X12_goes 8 1 x1 0 0 v9 σ') (fun r σ' => r = (if aHd S s D p = true then 1 else 0) ∧ MDy n (aGo S s D p) σ' ∧ FXd n σ σ') := by
    intro σ' h1 h3 h4
    show Rt (LB_X12_goes_203 (LF_X12_goes 7) x1 v9 σ') _
    unfold LB_X12_goes_203 aHd
    rw [hx, h1, ← em, if_neg c]
    by_cases q : aFar S s D p < s
    · exact Rt_f (i_nle (by omega)) (Rt_p ⟨by rw [decide_eq_true q, if_pos rfl], h3, h4⟩)
    · exact Rt_t (i_le (by omega)) (Rt_p ⟨by rw [decide_eq_false q, if_neg (by decide)], h3, h4⟩)
  refine Rt_fl (fun σb eb => ?_)
  have fb : FXd n σ σb := by rw [eb]; exact FXd_si FXd_rf (by omega)
  have g107 : gi σb 107 m = gi σ 107 m := by rw [eb, gi_si_ne (Or.inl (by decide))]
  have g106 : gi σb 106 m = gi σ 106 m := by rw [eb, gi_si_ne (Or.inl (by decide))]
  by_cases w : 0 < aFar S s D p
  · refine Rt_f (i_nle (show (0 : Int) < _ by omega)) ?_
    rw [g106]
    obtain ⟨r20, i1, i2⟩ := most0 (σ := σb) (show (gi σ 106 m - (1 : Int32)).toInt = D_ed D m - 1 from by rw [i_sub (y := (1 : Int32)) (by show (_ : Int) ≤ _ - 1; omega) (by show _ - 1 ≤ (_ : Int); omega), a3]; rfl)
    refine Rt_fe i1 ?_
    refine Rt_fl (fun σd ed => ?_)
    have fd : FXd n σ σd := by rw [ed]; exact FXd_si fb (by omega)
    have hsd : MT n S σd := MT_q (FXd_q fd) hs
    obtain ⟨r25, j1, j2⟩ := lastM (w := 3) (d := 1) (x1 := (3 : Int32)) (x2 := (1 : Int32)) sb.2.2.2.2.2.2.2.2.1 sb.2.2.2.2.2.2.2.2.2 rfl rfl hsd.2.2.2.2.2.1
    refine Rt_fe j1 ?_
    rw [← hs.2.2.2.2.2.2.1] at j2
    have g7d : gi σd 107 m = gi σ 107 m := by rw [ed, gi_si_ne (Or.inl (by decide)), g107]
    rw [g7d]
    obtain ⟨r27, k1, k2⟩ := lst (x := (99 : Int32)) (a := 99) (σ := σd) rfl (show (gi σ 107 m + r25).toInt = D_ti D m + S_tr S from by rw [i_add (by omega) (by omega), a4, j2])
    refine Rt_fe k1 ?_
    refine Rt_fl (fun σe ee => ?_)
    have fe : FXd n σ σe := by rw [ee]; exact FXd_si fd (by omega)
    refine fin σe (FXd_i fe (by omega)) ?_ fe
    unfold aGo
    rw [← em, if_neg c, if_pos w]
    refine ⟨?_, ?_, ?_, ?_, ?_⟩
    · rw [FXd_i fe (by omega)]; exact d1
    · refine row_u d2 ?_ (fun j hj => ?_)
      · rw [ee, gi_si_ne (Or.inl (by decide)), ed, gi_si_ne (Or.inl (by decide)), eb, gi_si_eq]; exact far
      · rw [ee, gi_si_ne (Or.inl (by decide)), ed, gi_si_ne (Or.inl (by decide)), eb, gi_si_ne (Or.inr hj)]
    · refine row_u d3 ?_ (fun j hj => ?_)
      · rw [ee, gi_si_ne (Or.inl (by decide)), ed, gi_si_eq]; exact i2
      · rw [ee, gi_si_ne (Or.inl (by decide)), ed, gi_si_ne (Or.inr hj), eb, gi_si_ne (Or.inl (by decide))]
    · refine row_u d4 ?_ (fun j hj => ?_)
      · rw [ee, gi_si_eq]; exact k2
      · rw [ee, gi_si_ne (Or.inr hj), ed, gi_si_ne (Or.inl (by decide)), eb, gi_si_ne (Or.inl (by decide))]
    · exact row_k d5 (fun j => by rw [ee, gi_si_ne (Or.inl (by decide)), ed, gi_si_ne (Or.inl (by decide)), eb, gi_si_ne (Or.inl (by decide))])
  · refine Rt_t (i_le (show _ ≤ (0 : Int) by omega)) ?_
    rw [g107]
    obtain ⟨r15, i1, i2⟩ := most0 (σ := σb) (show (gi σ 107 m - (2 : Int32)).toInt = D_ti D m - 2 from by rw [i_sub (y := (2 : Int32)) (by show (_ : Int) ≤ _ - 2; omega) (by show _ - 2 ≤ (_ : Int); omega), a4]; rfl)
    refine Rt_fe i1 ?_
    refine Rt_fl (fun σd ed => ?_)
    have fd : FXd n σ σd := by rw [ed]; exact FXd_si fb (by omega)
    refine fin σd (FXd_i fd (by omega)) ?_ fd
    unfold aGo
    rw [← em, if_neg c, if_neg w]
    refine ⟨?_, ?_, ?_, ?_, ?_⟩
    · rw [FXd_i fd (by omega)]; exact d1
    · refine row_s d2 (m := m) ?_ (fun j hj => ?_)
      · rw [ed, gi_si_ne (Or.inl (by decide)), eb, gi_si_eq, far, a2]; omega
      · rw [ed, gi_si_ne (Or.inl (by decide)), eb, gi_si_ne (Or.inr hj)]
    · exact row_k d3 (fun j => by rw [ed, gi_si_ne (Or.inl (by decide)), eb, gi_si_ne (Or.inl (by decide))])
    · refine row_u d4 ?_ (fun j hj => ?_)
      · rw [ed, gi_si_eq]; exact i2
      · rw [ed, gi_si_ne (Or.inr hj), eb, gi_si_ne (Or.inl (by decide))]
    · exact row_k d5 (fun j => by rw [ed, gi_si_ne (Or.inl (by decide)), eb, gi_si_ne (Or.inl (by decide))])
set_option maxHeartbeats 4000000 in
theorem goM {n p : Nat} {K s : Int} {S : Stc} {D : Dyn} {σ : Sg} {x : Int32} (sb : SBd n S) (db : DBd n K D) (hs : MT n S σ) (hd : MDy n D σ) (hx : x.toInt = (p : Int)) (hp : p < S_r S) (hst : (gi σ 131 p).toInt = s) (sb2 : 0 ≤ s ∧ s ≤ 1007) :
    Rt (F_X12_goes x σ) (fun r σ' => r = (if aHd S s D p = true then 1 else 0) ∧ MDy n (aGo S s D p) σ' ∧ FXd n σ σ') := by
  have ex := cl_eq (x := x) (by omega)
  have ep : x.toNatClampNeg = p := by omega
  obtain ⟨m, em⟩ : ∃ m, m = S_ln S p := ⟨_, rfl⟩
  have hm : m < n := by rw [em]; exact sb.2.2.1 p hp
  have ln := lineM hs hp
  obtain ⟨u1, u2, u3, u4⟩ := db.2 m hm
  have hd' := hd
  obtain ⟨d1, d2, d3, d4, d5⟩ := hd'
  have a4 := d4 m hm
  have a5 := d5 m hm
  unfold F_X12_goes
  rw [ep]
  refine Rt_fl (fun v2 e2 => ?_)
  have v2n : v2.toNatClampNeg = m := by rw [e2, ln, em]
  rw [v2n]
  by_cases c : 0 < D_st D m
  · refine Rt_f (i_nle (show (0 : Int) < _ by omega)) ?_
    refine Rt_fl (fun σa ea => ?_)
    have fa : FXd n σ σa := by rw [ea]; exact FXd_si FXd_rf (by omega)
    have g107 : gi σa 107 m = gi σ 107 m := by rw [ea, gi_si_ne (Or.inl (by decide))]
    rw [g107]
    obtain ⟨r17, i1, i2⟩ := most0 (σ := σa) (show (gi σ 107 m - (2 : Int32)).toInt = D_ti D m - 2 from by rw [i_sub (y := (2 : Int32)) (by show (_ : Int) ≤ _ - 2; omega) (by show _ - 2 ≤ (_ : Int); omega), a4]; rfl)
    refine Rt_fe i1 ?_
    refine Rt_fl (fun σd ed => ?_)
    have fd : FXd n σ σd := by rw [ed]; exact FXd_si fa (by omega)
    refine Rt_p ⟨?_, ?_, fd⟩
    · unfold aHd
      rw [← em, if_pos c, if_neg (by decide)]
    · unfold aGo
      rw [← em, if_pos c]
      refine ⟨?_, ?_, ?_, ?_, ?_⟩
      · rw [FXd_i fd (by omega)]; exact d1
      · exact row_k d2 (fun j => by rw [ed, gi_si_ne (Or.inl (by decide)), ea, gi_si_ne (Or.inl (by decide))])
      · exact row_k d3 (fun j => by rw [ed, gi_si_ne (Or.inl (by decide)), ea, gi_si_ne (Or.inl (by decide))])
      · refine row_u d4 ?_ (fun j hj => ?_)
        · rw [ed, gi_si_eq]; exact i2
        · rw [ed, gi_si_ne (Or.inr hj), ea, gi_si_ne (Or.inl (by decide))]
      · refine row_u d5 ?_ (fun j hj => ?_)
        · rw [ed, gi_si_ne (Or.inl (by decide)), ea, gi_si_eq, i_pred (by omega), a5]
        · rw [ed, gi_si_ne (Or.inl (by decide)), ea, gi_si_ne (Or.inr hj)]
  · refine Rt_t (i_le (show _ ≤ (0 : Int) by omega)) ?_
    by_cases q : p = 0
    · refine Rt_t (i_eq (show _ = (0 : Int) by omega)) ?_
      exact go82M sb db hs hd ep hp hst sb2 em v2n (by rw [if_pos q]; rfl) c
    · refine Rt_f (i_ne (show _ ≠ (0 : Int) by omega)) ?_
      obtain ⟨g, hg, gt⟩ := gapM sb hs
      have gb := sb.2.2.2.2.2.1
      have hp1 : p - 1 < S_r S := by omega
      have x1 : (x - (1 : Int32)).toInt = x.toInt - 1 := i_pred (by omega)
      have ex1 := cl_eq (x := x - (1 : Int32)) (by omega)
      have m1 := sb.2.2.1 _ hp1
      have a1 := d2 _ m1
      have b1 := (db.2 _ m1).1
      refine Rt_fe hg ?_
      rw [show (x - (1 : Int32)).toNatClampNeg = p - 1 from by omega, lineM hs hp1]
      obtain ⟨r11, j1, j2⟩ := lst (x := (9999 : Int32)) (a := 9999) (σ := σ) rfl (show (gi σ 105 (S_ln S (p - 1)) - g).toInt = D_at D (S_ln S (p - 1)) - S_gp S from by rw [i_sub (by omega) (by omega), a1, gt])
      refine Rt_fe j1 ?_
      exact go82M sb db hs hd ep hp hst sb2 em v2n (by rw [if_neg q]; exact j2) c
/-- how often one was held -/
noncomputable def hc : List Nat → Nat → Int
  | [], _ => 0
  | a :: l, m => (if a = m then 1 else 0) + hc l m
theorem hc_ap {m a : Nat} : ∀ l : List Nat, hc (l ++ [a]) m = hc l m + (if a = m then 1 else 0) := by
  intro l
  induction l with
  | nil => show (if a = m then 1 else 0) + 0 = (0 : Int) + (if a = m then 1 else 0); split <;> rfl
  | cons b l ih => show (if b = m then 1 else 0) + hc (l ++ [a]) m = (if b = m then 1 else 0) + hc l m + _; rw [ih]; omega
theorem hc_b {m : Nat} : ∀ l : List Nat, 0 ≤ hc l m ∧ hc l m ≤ (l.length : Int) := by
  intro l
  induction l with
  | nil => exact ⟨Int.le_refl _, Int.le_refl _⟩
  | cons b l ih => rw [List.length_cons]; show 0 ≤ (if b = m then 1 else 0) + hc l m ∧ (if b = m then 1 else 0) + hc l m ≤ _; split <;> omega
noncomputable def HTm (n : Nat) (B : Nat → Int) (l : List Nat) (σ : Sg) : Prop := ∀ m, m < n → (0 ≤ B m ∧ B m ≤ 100000) ∧ (gi σ 132 m).toInt = B m + hc l m
theorem gosM {n : Nat} {S : Stc} {st : Nat → Int} (sb : SBd n S) (hst : ∀ q, q < S_r S → 0 ≤ st q ∧ st q ≤ 1007) : ∀ (k p : Nat) (l : List Nat) (D : Dyn) (K : Int) (σ : Sg) (N : Nat) (x1 x2 : Int32), p + k = S_r S → l.length ≤ p → k + 1 ≤ N → K ≤ 200000 → DBd n K D → MT n S σ → MDy n D σ → x2.toInt = (p : Int) → x1 = hset l → (∀ q, q < S_r S → (gi σ 131 q).toInt = st q) →
    Rt (LF_X12_goMinute N 1 x1 x2 σ) (fun r σ' => r = hset (aGos S st k p l D).1 ∧ MDy n (aGos S st k p l D).2 σ' ∧ FXq n σ σ' ∧ ∀ B, HTm n B l σ → HTm n B (aGos S st k p l D).1 σ') := by
  intro k
  induction k with
  | zero =>
    intro p l D K σ N x1 x2 hp hl hN hK db hs hd hx h1 hq
    obtain ⟨N, rfl⟩ : ∃ j, N = j + 1 := ⟨N - 1, by omega⟩
    have h3 := hs.1
    obtain ⟨d1, d2, d3, d4, d5⟩ := hd
    have dm := db.1
    show Rt (LB_X12_goMinute_31 (LF_X12_goMinute N) x1 x2 σ) _
    unfold LB_X12_goMinute_31
    refine Rt_t (i_le (by omega)) ?_
    refine Rt_fl (fun σ2 e2 => Rt_p ⟨h1, ⟨?_, ?_, ?_, ?_, ?_⟩, ?_, fun B hB m hm => ?_⟩)
    · rw [e2, gi_si_eq, i_add (y := (1 : Int32)) (by show (_ : Int) ≤ _ + 1; omega) (by show _ + 1 ≤ (_ : Int); omega), d1]; rfl
    · exact row_k d2 (fun j => by rw [e2, gi_si_ne (Or.inl (by decide))])
    · exact row_k d3 (fun j => by rw [e2, gi_si_ne (Or.inl (by decide))])
    · exact row_k d4 (fun j => by rw [e2, gi_si_ne (Or.inl (by decide))])
    · exact row_k d5 (fun j => by rw [e2, gi_si_ne (Or.inl (by decide))])
    · rw [e2]; exact FX_si FX_rf (Or.inr (Or.inl ⟨rfl, Or.inl rfl⟩))
    · rw [e2, gi_si_ne (Or.inl (by decide))]; exact hB m hm
  | succ k ih =>
    intro p l D K σ N x1 x2 hp hl hN hK db hs hd hx h1 hq
    obtain ⟨N, rfl⟩ : ∃ j, N = j + 1 := ⟨N - 1, by omega⟩
    have hp' : p < S_r S := by omega
    have n6 := sb.1
    have rn := sb.2.1
    have h3 := hs.1
    have ex := cl_eq (x := x2) (by omega)
    have ep : x2.toNatClampNeg = p := by omega
    have x3 : (x2 + (1 : Int32)).toInt = x2.toInt + 1 := i_add (y := (1 : Int32)) (by show (_ : Int) ≤ x2.toInt + 1; omega) (by show x2.toInt + 1 ≤ (_ : Int); omega)
    show Rt (LB_X12_goMinute_31 (LF_X12_goMinute N) x1 x2 σ) _
    unfold LB_X12_goMinute_31
    refine Rt_f (i_nle (by omega)) ?_
    refine Rt_fb (goM sb db hs hd hx hp' (hq p hp') (hst p hp')) (fun r4 σ3 h => ?_)
    obtain ⟨g1, g2, g3⟩ := h
    have hs3 := MT_q (FXd_q g3) hs
    have db3 := aGo_b (s := st p) sb db hp'
    show Rt _ (fun r σ' => r = hset (aGos S st k (p + 1) (if aHd S (st p) D p = true then l ++ [S_ln S p] else l) (aGo S (st p) D p)).1 ∧ MDy n (aGos S st k (p + 1) (if aHd S (st p) D p = true then l ++ [S_ln S p] else l) (aGo S (st p) D p)).2 σ' ∧ FXq n σ σ' ∧ ∀ B, HTm n B l σ → HTm n B (aGos S st k (p + 1) (if aHd S (st p) D p = true then l ++ [S_ln S p] else l) (aGo S (st p) D p)).1 σ')
    have e132 : ∀ m, gi σ3 132 m = gi σ 132 m := fun m => FXd_i g3 (by omega)
    by_cases a : aHd S (st p) D p = true
    · rw [if_pos a] at g1 ⊢
      refine Rt_f (by rw [g1]; decide) ?_
      have lI : gi σ3 110 p = nI (S_ln S p) := by
        have := lineM hs3 hp'
        have l9 := hs3.2.1 p hp'
        rw [← this]; exact nI_ofI (by omega)
      have lm : (nI (S_ln S p)).toNatClampNeg = S_ln S p := by rw [← lI]; exact lineM hs3 hp'
      rw [ep, lI, lm]
      refine Rt_fl (fun v7 e7 => ?_)
      refine Rt_fl (fun σ11 e11 => ?_)
      refine Rt_fl (fun v12 e12 => ?_)
      have f11 : FXq n σ σ11 := by rw [e11]; exact FX_si (FXd_q g3) (Or.inl (Or.inr (Or.inr rfl)))
      have f3 : FXq n σ3 σ11 := by rw [e11]; exact FX_si FX_rf (Or.inl (Or.inr (Or.inr rfl)))
      refine Rt_w (ih (p + 1) (l ++ [S_ln S p]) (aGo S (st p) D p) K σ11 N v7 v12 (by omega) (by rw [List.length_append]; show l.length + 1 ≤ p + 1; omega) (by omega) hK db3 (MT_q f3 hs3) (MDy_eq (fun id k h9 => by rw [e11, gi_si_ne (Or.inl (by omega))]) g2) (by rw [e12]; omega) (by rw [e7, hset_ap, h1]) (fun q hq' => by rw [e11, gi_si_ne (Or.inl (by decide)), FXd_i g3 (by omega)]; exact hq q hq')) (fun r σ' h => ⟨h.1, h.2.1, FXq_tr f11 h.2.2.1, fun B hB => h.2.2.2 B (fun m hm => ?_)⟩)
      obtain ⟨b1, b2⟩ := hB m hm
      have hb := hc_b (m := m) l
      refine ⟨b1, ?_⟩
      rw [hc_ap, e11]
      by_cases e : m = S_ln S p
      · subst e
        rw [gi_si_eq, e132, if_pos rfl, i_add (y := (1 : Int32)) (by show (_ : Int) ≤ _ + 1; omega) (by show _ + 1 ≤ (_ : Int); omega)]
        show _ + (1 : Int) = _
        omega
      · rw [gi_si_ne (Or.inr e), e132, if_neg (fun z => e z.symm)]; omega
    · rw [if_neg a] at g1 ⊢
      refine Rt_t g1 ?_
      refine Rt_fl (fun v13 e13 => ?_)
      refine Rt_w (ih (p + 1) l (aGo S (st p) D p) K σ3 N x1 v13 (by omega) (by omega) (by omega) hK db3 hs3 g2 (by rw [e13]; omega) h1 (fun q hq' => by rw [FXd_i g3 (by omega)]; exact hq q hq')) (fun r σ' h => ⟨h.1, h.2.1, FXq_tr (FXd_q g3) h.2.2.1, fun B hB => h.2.2.2 B (fun m hm => by rw [e132]; exact hB m hm)⟩)
theorem strsM {n : Nat} {K : Int} {S : Stc} {D : Dyn} (sb : SBd n S) (db : DBd n K D) (hK : K ≤ 200000) : ∀ (k p : Nat) (σ : Sg) (N : Nat) (x1 : Int32), p + k = S_r S → k + S_r S + 2 ≤ N → MT n S σ → MDy n D σ → x1.toInt = (p : Int) → (∀ q, q < p → (gi σ 131 q).toInt = aSt S D q) →
    Rt (LF_X12_goMinute N 0 x1 0 σ) (fun r σ' => r = hset (aMin S D).1 ∧ MDy n (aMin S D).2 σ' ∧ FXq n σ σ' ∧ ∀ B, HTm n B [] σ → HTm n B (aMin S D).1 σ') := by
  intro k
  induction k with
  | zero =>
    intro p σ N x1 hp hN hs hd hx hq
    obtain ⟨N, rfl⟩ : ∃ j, N = j + 1 := ⟨N - 1, by omega⟩
    have h3 := hs.1
    show Rt (LB_X12_goMinute_2 (LF_X12_goMinute N) x1 σ) _
    unfold LB_X12_goMinute_2
    refine Rt_t (i_le (by omega)) ?_
    exact gosM sb (fun q hq' => aSt_b sb db hq') (S_r S) 0 [] D K σ N (0 : Int32) (0 : Int32) (by omega) (Nat.le_refl _) (by omega) hK db hs hd rfl rfl (fun q hq' => hq q (by omega))
  | succ k ih =>
    intro p σ N x1 hp hN hs hd hx hq
    obtain ⟨N, rfl⟩ : ∃ j, N = j + 1 := ⟨N - 1, by omega⟩
    have h3 := hs.1
    have n6 := sb.1
    have rn := sb.2.1
    have hp' : p < S_r S := by omega
    have ex := cl_eq (x := x1) (by omega)
    have ep : x1.toNatClampNeg = p := by omega
    have x3 : (x1 + (1 : Int32)).toInt = x1.toInt + 1 := i_add (y := (1 : Int32)) (by show (_ : Int) ≤ x1.toInt + 1; omega) (by show x1.toInt + 1 ≤ (_ : Int); omega)
    show Rt (LB_X12_goMinute_2 (LF_X12_goMinute N) x1 σ) _
    unfold LB_X12_goMinute_2
    refine Rt_f (i_nle (by omega)) ?_
    refine Rt_fb (strAtM sb db hs hd hx hp') (fun r3 σ2 h => ?_)
    obtain ⟨h1, f2⟩ := h
    rw [ep]
    refine Rt_fl (fun σ5 e5 => ?_)
    have f5 : FXq n σ σ5 := by rw [e5]; exact FX_si (FXa_q f2) (Or.inl (Or.inr (Or.inl rfl)))
    refine Rt_fl (fun v6 e6 => ?_)
    refine Rt_w (ih (p + 1) σ5 N v6 (by omega) (by omega) (MT_q f5 hs) (MDy_eq (fun id k h9 => by rw [e5, gi_si_ne (Or.inl (by omega)), FXa_i f2 (by omega)]) hd) (by rw [e6]; omega) (fun q hq' => ?_)) (fun r σ' h => ⟨h.1, h.2.1, FXq_tr f5 h.2.2.1, fun B hB => h.2.2.2 B (fun m hm => by rw [e5, gi_si_ne (Or.inl (by decide)), FXa_i f2 (by omega)]; exact hB m hm)⟩)
    by_cases e : q = p
    · subst e; rw [e5, gi_si_eq]; exact h1
    · rw [e5, gi_si_ne (Or.inr e), FXa_i f2 (by omega)]; exact hq q (by omega)
theorem minM {n : Nat} {K : Int} {S : Stc} {D : Dyn} {σ : Sg} (sb : SBd n S) (db : DBd n K D) (hK : K ≤ 200000) (hs : MT n S σ) (hd : MDy n D σ) :
    Rt (F_X12_goMinute σ) (fun r σ' => r = hset (aMin S D).1 ∧ MDy n (aMin S D).2 σ' ∧ FXq n σ σ' ∧ ∀ B, HTm n B [] σ → HTm n B (aMin S D).1 σ') := by
  have n6 := sb.1
  have rn := sb.2.1
  unfold F_X12_goMinute
  exact strsM sb db hK (S_r S) 0 σ 900 (0 : Int32) (by omega) (by omega) hs hd rfl (fun q h => absurd h (Nat.not_lt_zero q))
