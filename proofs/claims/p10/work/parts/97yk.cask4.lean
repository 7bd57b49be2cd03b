/-! what the class answers: whets, apart, rest, paused, to the end; stop, alone, odds, mean -/
theorem LFw {a b : Int32} {N : Nat} {σ : Sg} {Q : Int32 → Sg → Prop} (h : Rt (LB_X11_whets_11 (LF_X11_whets N) a b σ) Q) : Rt (LF_X11_whets (N + 1) a b σ) Q := h
theorem whetsC {n : Nat} {K : Int} {S : Stc} {D : Dyn} {σ : Sg} {a1 a2 : Int32} (h : HCl n K S D σ) : Rt (F_X11_whets a1 a2 σ) (fun r _ => r.toInt = r_whets n S D a1.toInt a2.toInt) := by
  have n6 := h.1.1
  unfold F_X11_whets
  have core : 0 ≤ a2.toInt ∧ a2.toInt ≤ 1 → Rt (LF_X11_whets 9 a1 a2 σ) (fun r _ => r.toInt = r_whets n S D a1.toInt a2.toInt) := by
    intro c
    show Rt (LB_X11_whets_11 (LF_X11_whets 8) a1 a2 σ) _
    unfold LB_X11_whets_11
    by_cases d0 : a1.toInt < 1
    · refine Rt_t (i_lt (show _ < (1 : Int) from d0)) ?_
      show (-2 : Int32).toInt = r_whets n S D a1.toInt a2.toInt
      unfold r_whets; rw [if_pos c, if_neg (by omega)]; rfl
    refine Rt_f (i_nlt (show (1 : Int) ≤ _ by omega)) ?_
    by_cases d1 : a1.toInt ≤ 60
    · refine Rt_t (i_le (show _ ≤ (60 : Int) from d1)) ?_
      obtain ⟨j, hj⟩ : ∃ j : Nat, a1.toInt = (j : Int) := ⟨a1.toInt.toNat, by omega⟩
      have ev : r_whets n S D a1.toInt a2.toInt = (if a2.toInt = 0 then (aBst (fun k => tot n (aTw S k j 1 D)) 16 1 0 (-1)).1 else (aBst (fun k => tot n (aTw S k j 1 D)) 16 1 0 (-1)).2) := by
        unfold r_whets; rw [if_pos c, if_pos (by omega), hj, show ((j : Int)).toNat = j from by omega]
      rw [ev]
      refine Rt_fb (mst_in (first := 1) (last := 16) (j := 15) (f := fun k => tot n (aTw S k j 1 D)) h rfl rfl (by decide) (by decide) (tot_b n6 (aTw_b h.1 j 1 D K h.2.1)).1 rfl (fun k x8 σ hk1 hk2 h8 h => ?_)) (fun r s e => ?_)
      · refine Rt_w (tbC (b := 0) (k := (k : Int)) h rfl (by decide) hj (by omega) h8 (fun z => absurd z (by decide))) (fun r σ' q => ⟨?_, q.2⟩)
        rw [q.1, if_neg (by decide), if_neg (fun z => absurd z.1 (by decide)), aTb_whe (by omega)]
      · exact e.1
    · refine Rt_f (i_nle (show (60 : Int) < _ by omega)) ?_
      show (-2 : Int32).toInt = r_whets n S D a1.toInt a2.toInt
      unfold r_whets; rw [if_pos c, if_neg (by omega)]; rfl
  by_cases e0 : a2.toInt = 0
  · exact Rt_t (i_eq (show _ = (0 : Int) from e0)) (core (by omega))
  refine Rt_f (i_ne (show _ ≠ (0 : Int) from e0)) ?_
  by_cases e1 : a2.toInt = 1
  · exact Rt_t (i_eq (show _ = (1 : Int) from e1)) (core (by omega))
  refine Rt_f (i_ne (show _ ≠ (1 : Int) from e1)) ?_
  show (-1 : Int32).toInt = r_whets n S D a1.toInt a2.toInt
  unfold r_whets; rw [if_neg (by omega)]; rfl
theorem apartC {n : Nat} {K : Int} {S : Stc} {D : Dyn} {σ : Sg} {a1 a2 : Int32} (h : HCl n K S D σ) : Rt (F_X11_apart a1 a2 σ) (fun r _ => r.toInt = r_apart n S D a1.toInt a2.toInt) := by
  have n6 := h.1.1
  unfold F_X11_apart
  have core : 0 ≤ a2.toInt ∧ a2.toInt ≤ 1 → Rt (LF_X11_apart 9 a1 a2 σ) (fun r _ => r.toInt = r_apart n S D a1.toInt a2.toInt) := by
    intro c
    show Rt (LB_X11_apart_11 (LF_X11_apart 8) a1 a2 σ) _
    unfold LB_X11_apart_11
    by_cases d0 : a1.toInt < 1
    · refine Rt_t (i_lt (show _ < (1 : Int) from d0)) ?_
      show (-2 : Int32).toInt = r_apart n S D a1.toInt a2.toInt
      unfold r_apart; rw [if_pos c, if_neg (by omega)]; rfl
    refine Rt_f (i_nlt (show (1 : Int) ≤ _ by omega)) ?_
    by_cases d1 : a1.toInt ≤ 60
    · refine Rt_t (i_le (show _ ≤ (60 : Int) from d1)) ?_
      obtain ⟨j, hj⟩ : ∃ j : Nat, a1.toInt = (j : Int) := ⟨a1.toInt.toNat, by omega⟩
      have ev : r_apart n S D a1.toInt a2.toInt = (if a2.toInt = 0 then (aBst (fun k => tot n (aMins (sGp k S) j D)) 10 0 0 (-1)).1 else (aBst (fun k => tot n (aMins (sGp k S) j D)) 10 0 0 (-1)).2) := by
        unfold r_apart; rw [if_pos c, if_pos (by omega), hj, show ((j : Int)).toNat = j from by omega]
      rw [ev]
      refine Rt_fb (mst_in (first := 0) (last := 9) (j := 9) (f := fun k => tot n (aMins (sGp k S) j D)) h rfl rfl (by decide) (by decide) (tot_b n6 (aMins_b (SBd_gp h.1 (by decide)) j D K h.2.1)).1 rfl (fun k x8 σ hk1 hk2 h8 h => ?_)) (fun r s e => ?_)
      · have hk2 : (k : Int) ≤ 9 := hk2
        refine Rt_w (tbC (b := 1) (k := (k : Int)) h rfl (by decide) hj (by omega) h8 (fun _ => by omega)) (fun r σ' q => ⟨?_, q.2⟩)
        rw [q.1, if_pos rfl, if_neg (fun z => absurd z.1 (by decide)), aTb_mins _ _ _ (by decide) (Or.inl (by decide))]
      · exact e.1
    · refine Rt_f (i_nle (show (60 : Int) < _ by omega)) ?_
      show (-2 : Int32).toInt = r_apart n S D a1.toInt a2.toInt
      unfold r_apart; rw [if_pos c, if_neg (by omega)]; rfl
  by_cases e0 : a2.toInt = 0
  · exact Rt_t (i_eq (show _ = (0 : Int) from e0)) (core (by omega))
  refine Rt_f (i_ne (show _ ≠ (0 : Int) from e0)) ?_
  by_cases e1 : a2.toInt = 1
  · exact Rt_t (i_eq (show _ = (1 : Int) from e1)) (core (by omega))
  refine Rt_f (i_ne (show _ ≠ (1 : Int) from e1)) ?_
  show (-1 : Int32).toInt = r_apart n S D a1.toInt a2.toInt
  unfold r_apart; rw [if_neg (by omega)]; rfl
theorem pausedC {n : Nat} {K : Int} {S : Stc} {D : Dyn} {σ : Sg} {a1 a2 : Int32} (h : HCl n K S D σ) : Rt (F_X11_paused a1 a2 σ) (fun r _ => r.toInt = r_paused n S D a1.toInt a2.toInt) := by
  have n6 := h.1.1
  unfold F_X11_paused
  have core : 0 ≤ a2.toInt ∧ a2.toInt ≤ 1 → Rt (LF_X11_paused 9 a1 a2 σ) (fun r _ => r.toInt = r_paused n S D a1.toInt a2.toInt) := by
    intro c
    show Rt (LB_X11_paused_11 (LF_X11_paused 8) a1 a2 σ) _
    unfold LB_X11_paused_11
    by_cases d0 : a1.toInt < 1
    · refine Rt_t (i_lt (show _ < (1 : Int) from d0)) ?_
      show (-2 : Int32).toInt = r_paused n S D a1.toInt a2.toInt
      unfold r_paused; rw [if_pos c, if_neg (by omega)]; rfl
    refine Rt_f (i_nlt (show (1 : Int) ≤ _ by omega)) ?_
    by_cases d1 : a1.toInt ≤ 30
    · refine Rt_t (i_le (show _ ≤ (30 : Int) from d1)) ?_
      obtain ⟨j, hj⟩ : ∃ j : Nat, a1.toInt = (j : Int) := ⟨a1.toInt.toNat, by omega⟩
      have ev : r_paused n S D a1.toInt a2.toInt = (if a2.toInt = 0 then (aBst (fun k => tot n (aPz S j k D)) (j + 1) 0 0 (-1)).1 else (aBst (fun k => tot n (aPz S j k D)) (j + 1) 0 0 (-1)).2) := by
        unfold r_paused; rw [if_pos c, if_pos (by omega), hj, show ((j : Int)).toNat = j from by omega]
      rw [ev]
      have t0 : 0 ≤ tot n (aPz S j 0 D) := by
        rw [← tot_pz (Nat.zero_le j)]
        have b := aMins_b h.1 (j - 0) _ _ (aPas_b (u := 5) (v := 15) (aMins_b h.1 0 D K h.2.1) (by decide) (by decide))
        rw [tot_pz (Nat.zero_le j)]
        exact (tot_b n6 b).1
      refine Rt_fb (mst_in (first := 0) (last := j) (j := j) (f := fun k => tot n (aPz S j k D)) h rfl hj (Nat.zero_le j) (by omega) t0 (by omega) (fun k x8 σ hk1 hk2 h8 h => ?_)) (fun r s e => ?_)
      · refine Rt_w (tbC (b := 3) (k := (k : Int)) h rfl (by decide) hj (by omega) h8 (fun z => absurd z (by decide))) (fun r σ' q => ⟨?_, q.2⟩)
        rw [q.1, if_neg (by decide), if_neg (fun z => absurd z.1 (by decide)), tot_pz (by omega)]
      · exact e.1
    · refine Rt_f (i_nle (show (30 : Int) < _ by omega)) ?_
      show (-2 : Int32).toInt = r_paused n S D a1.toInt a2.toInt
      unfold r_paused; rw [if_pos c, if_neg (by omega)]; rfl
  by_cases e0 : a2.toInt = 0
  · exact Rt_t (i_eq (show _ = (0 : Int) from e0)) (core (by omega))
  refine Rt_f (i_ne (show _ ≠ (0 : Int) from e0)) ?_
  by_cases e1 : a2.toInt = 1
  · exact Rt_t (i_eq (show _ = (1 : Int) from e1)) (core (by omega))
  refine Rt_f (i_ne (show _ ≠ (1 : Int) from e1)) ?_
  show (-1 : Int32).toInt = r_paused n S D a1.toInt a2.toInt
  unfold r_paused; rw [if_neg (by omega)]; rfl
theorem aBst_ch {f : Nat → Int} : ∀ (j k : Nat) (b m : Int), ((aBst f j k b m).1 = b ∧ (aBst f j k b m).2 = m) ∨ ∃ i : Nat, k ≤ i ∧ i < k + j ∧ (aBst f j k b m).1 = (i : Int) ∧ (aBst f j k b m).2 = f i := by
  intro j
  induction j with
  | zero => intro k b m; exact Or.inl ⟨rfl, rfl⟩
  | succ j ih =>
    intro k b m
    rw [aBst_s]
    by_cases c : m < f k
    · rw [if_pos c]
      rcases ih (k + 1) (k : Int) (f k) with ⟨a, b⟩ | ⟨i, a, b, c, d⟩
      · exact Or.inr ⟨k, by omega, by omega, a, b⟩
      · exact Or.inr ⟨i, by omega, by omega, c, d⟩
    · rw [if_neg c]
      rcases ih (k + 1) b m with h | ⟨i, a, b, c, d⟩
      · exact Or.inl h
      · exact Or.inr ⟨i, by omega, by omega, c, d⟩
theorem aBst_b {f : Nat → Int} : ∀ (j k : Nat) (b b' m : Int), (aBst f j k b m).2 = (aBst f j k b' m).2 ∧ ((aBst f j k b m).1 = (aBst f j k b' m).1 ∨ ((aBst f j k b m).1 = b ∧ (aBst f j k b' m).1 = b')) := by
  intro j
  induction j with
  | zero => intro k b b' m; exact ⟨rfl, Or.inr ⟨rfl, rfl⟩⟩
  | succ j ih =>
    intro k b b' m
    rw [aBst_s, aBst_s]
    by_cases c : m < f k
    · rw [if_pos c, if_pos c]; exact ⟨rfl, Or.inl rfl⟩
    · rw [if_neg c, if_neg c]; exact ih (k + 1) b b' m
theorem restCa {n : Nat} {K : Int} {S : Stc} {D : Dyn} {σ : Sg} {a1 a2 : Int32} (h : HCl n K S D σ) : Rt (F_X11_rest a1 a2 σ) (fun r _ => r.toInt = r_rest n S D a1.toInt a2.toInt) := by
  have n6 := h.1.1
  have c1 := h.2.2.2.2.2.1.1
  unfold F_X11_rest
  have core : 0 ≤ a2.toInt ∧ a2.toInt ≤ 1 → Rt (LF_X11_rest 9 a1 a2 σ) (fun r _ => r.toInt = r_rest n S D a1.toInt a2.toInt) := by
    intro c
    show Rt (LB_X11_rest_11 (LF_X11_rest 8) a1 a2 σ) _
    unfold LB_X11_rest_11
    by_cases d0 : a1.toInt < 1
    · refine Rt_t (i_lt (show _ < (1 : Int) from d0)) ?_
      show (-2 : Int32).toInt = r_rest n S D a1.toInt a2.toInt
      unfold r_rest; rw [if_pos c, if_neg (by omega)]; rfl
    refine Rt_f (i_nlt (show (1 : Int) ≤ _ by omega)) ?_
    by_cases d1 : a1.toInt ≤ 60
    · refine Rt_t (i_le (show _ ≤ (60 : Int) from d1)) ?_
      obtain ⟨j, hj⟩ : ∃ j : Nat, a1.toInt = (j : Int) := ⟨a1.toInt.toNat, by omega⟩
      obtain ⟨f, ef⟩ : ∃ f : Nat → Int, f = fun k => tot n (aMins S j (aStp k 5 D)) := ⟨_, rfl⟩
      obtain ⟨m0, em⟩ : ∃ m0, m0 = tot n (aMins S j D) := ⟨_, rfl⟩
      have ev : r_rest n S D a1.toInt a2.toInt = (if (aBst f n 0 (-5) m0).1 < 0 ∨ a2.toInt = 0 then (aBst f n 0 (-5) m0).1 else (aBst f n 0 (-5) m0).2) := by
        unfold r_rest; rw [if_pos c, if_pos (by omega), hj, show ((j : Int)).toNat = j from by omega, ef, em]
      rw [ev]
      have lst : (gi σ 1 1 - (1 : Int32)).toInt = (n : Int) - 1 := by rw [i_sub (y := (1 : Int32)) (by show (_ : Int) ≤ _ - 1; omega) (by show _ - 1 ≤ (_ : Int); omega), c1]; rfl
      have T : ∀ (k : Nat) (x8 : Int32) (σ : Sg), (k : Int) ≤ (n : Int) - 1 → x8.toInt = (k : Int) → HCl n K S D σ → Rt (F_X11_totalBy (2 : Int32) a1 x8 σ) (fun r σ' => r.toInt = f k ∧ FXv σ σ') := by
        intro k x8 σ hk h8 h
        refine Rt_w (tbC (b := 2) (k := (k : Int)) h rfl (by decide) hj (by omega) h8 (fun z => absurd z (by decide))) (fun r σ' q => ⟨?_, q.2⟩)
        rw [q.1, if_neg (by decide), if_pos ⟨rfl, by omega, by omega⟩, aTb_mins _ _ _ (by decide) (Or.inl (by decide)), ef, show ((k : Int)).toNat = k from by omega]
      have H : Rt (F_X11_mostBy (2 : Int32) a1 (-1 : Int32) (gi σ 1 1 - (1 : Int32)) (0 : Int32) σ) (fun r σ' => r.toInt = (aBst f n 0 (-1) m0).1 ∧ FXv σ σ') := by
        unfold F_X11_mostBy
        refine Rt_fb (tbC (x1 := (2 : Int32)) (x3 := (-1 : Int32)) (b := 2) (k := -1) h rfl (by decide) hj (by omega) rfl (fun z => absurd z (by decide))) (fun r2 σ1 ⟨v, z⟩ => ?_)
        rw [if_neg (by decide), if_neg (by omega), aTb_mins _ _ _ (by decide) (Or.inl (by decide)), ← em] at v
        refine Rt_fl (fun v3 e3 => ?_)
        refine Rt_w (mstLC (last := n - 1) (f := f) (x5 := (0 : Int32)) (by omega) (by omega) (fun k x8 σ hk h8 h => T k x8 σ (by omega) h8 h) n 0 90 (-1 : Int32) r2 v3 (-1) m0 σ1 (by omega) (by omega) rfl v (by rw [e3]; rfl) (HCl_v z h)) (fun r σ' q => ⟨?_, FXv_tr z q.2⟩)
        rw [q.1, if_pos (show (0 : Int32).toInt = 0 from rfl)]
      refine Rt_fb H (fun r4 σ3 ⟨v, z⟩ => ?_)
      obtain ⟨b2, b1⟩ := aBst_b (f := f) n 0 (-1) (-5) m0
      rcases aBst_ch (f := f) n 0 (-1) m0 with ⟨q1, q2⟩ | ⟨i, q1, q2, q3, q4⟩
      · have e5 : (aBst f n 0 (-5) m0).1 = -5 := by
          rcases aBst_ch (f := f) n 0 (-5) m0 with ⟨w, -⟩ | ⟨i, -, -, w, -⟩
          · exact w
          · rcases b1 with u | ⟨-, u⟩ <;> omega
        rw [if_pos (Or.inl (show (aBst f n 0 (-5) m0).1 < 0 by omega))]
        refine Rt_f (show ¬ 0 ≤ r4 from i_nle (a := (0 : Int32)) (show r4.toInt < (0 : Int) by omega)) ?_
        show (-5 : Int32).toInt = _
        rw [e5]; rfl
      · have e5 : (aBst f n 0 (-5) m0).1 = (i : Int) := by rcases b1 with u | ⟨u, -⟩ <;> omega
        refine Rt_t (show 0 ≤ r4 from i_le (a := (0 : Int32)) (show (0 : Int) ≤ r4.toInt by omega)) ?_
        by_cases e0 : a2.toInt = 0
        · rw [if_pos (Or.inr e0)]
          refine Rt_t (i_eq (show _ = (0 : Int) from e0)) ?_
          show r4.toInt = _
          rw [e5]; omega
        · rw [if_neg (show ¬ ((aBst f n 0 (-5) m0).1 < 0 ∨ a2.toInt = 0) by omega)]
          refine Rt_f (i_ne (show _ ≠ (0 : Int) from e0)) ?_
          refine Rt_fb (T i r4 σ3 (by omega) (by omega) (HCl_v z h)) (fun r8 σ7 e => ?_)
          show r8.toInt = _
          rw [e.1, ← b2, q4]
    · refine Rt_f (i_nle (show (60 : Int) < _ by omega)) ?_
      show (-2 : Int32).toInt = r_rest n S D a1.toInt a2.toInt
      unfold r_rest; rw [if_pos c, if_neg (by omega)]; rfl
  by_cases e0 : a2.toInt = 0
  · exact Rt_t (i_eq (show _ = (0 : Int) from e0)) (core (by omega))
  refine Rt_f (i_ne (show _ ≠ (0 : Int) from e0)) ?_
  by_cases e1 : a2.toInt = 1
  · exact Rt_t (i_eq (show _ = (1 : Int) from e1)) (core (by omega))
  refine Rt_f (i_ne (show _ ≠ (1 : Int) from e1)) ?_
  show (-1 : Int32).toInt = r_rest n S D a1.toInt a2.toInt
  unfold r_rest; rw [if_neg (by omega)]; rfl
