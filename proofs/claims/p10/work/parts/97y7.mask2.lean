/-! what the model answers: apart, rest, paused, planned -/
noncomputable def sGp (g : Int) (S : Stc) : Stc := (S.1, S.2.1, S.2.2.1, S.2.2.2.1, S.2.2.2.2.1, g, S.2.2.2.2.2.2.1, S.2.2.2.2.2.2.2)
theorem SBd_gp {n : Nat} {S : Stc} {g : Int} (h : SBd n S) (hg : 0 ≤ g ∧ g ≤ 99) : SBd n (sGp g S) := ⟨h.1, h.2.1, h.2.2.1, h.2.2.2.1, h.2.2.2.2.1, hg, h.2.2.2.2.2.2⟩
theorem MT_gp {n : Nat} {S : Stc} {g : Int} {σ σ' : Sg} (e : ∀ id k, (id = 74 ∧ (k = 2 ∨ k = 12)) ∨ id = 103 ∨ id = 104 ∨ id = 109 ∨ id = 110 ∨ (117 ≤ id ∧ id ≤ 122) → gi σ' id k = gi σ id k) (h28 : (gi σ' 74 28).toInt = g) (hg : 0 ≤ g) (h : MT n S σ) : MT n (sGp g S) σ' := by
  obtain ⟨h2, h3, h4, h5, h6, h7, h8, h9⟩ := h
  exact ⟨by rw [e 74 2 (by omega)]; exact h2, fun p hp => by rw [e 110 p (by omega)]; exact h3 p hp, fun m hm => by rw [e 103 m (by omega)]; exact h4 m hm, fun m hm => by rw [e 104 m (by omega)]; exact h5 m hm, fun k hk => by rw [e 109 k (by omega)]; exact h6 k hk, MH_eq (e 74 12 (by omega)) (fun id k a b => e id k (by omega)) h7, h8, Or.inl ⟨by rw [h28]; exact hg, h28.symm⟩⟩
/-- all but the gap told -/
noncomputable def FXg9 (σ σ' : Sg) : Prop := ∀ id k, ¬ Pz id k → ¬ (id = 74 ∧ k = 28) → gi σ' id k = gi σ id k
theorem aptLM {n j : Nat} {K : Int} {S : Stc} {D : Dyn} {x1 x2 : Int32} {σ0 : Sg} (h : HMo n K S D σ0) (h28 : gi σ0 74 28 = (-1 : Int32)) (h1 : x1.toInt = (j : Int)) (h60 : j ≤ 60) : ∀ (i k N : Nat) (x3 x4 x5 : Int32) (b m : Int) (σ : Sg), i + k = 10 → i < N → x3.toInt = b → x4.toInt = m → x5.toInt = (k : Int) → FXg9 σ0 σ →
    Rt (LF_X12_apart N x1 x2 x3 x4 x5 σ) (fun r σ' => r.toInt = (if x2.toInt = 0 then (aBst (fun k => tot n (aMins (sGp k S) j D)) i k b m).1 else (aBst (fun k => tot n (aMins (sGp k S) j D)) i k b m).2) ∧ FXz σ0 σ') := by
  obtain ⟨sb, db, hK, hr, h99, hs, hd⟩ := h
  have n6 := sb.1
  intro i
  induction i with
  | zero =>
    intro k N x3 x4 x5 b m σ hi hN h3 h4 h5 f
    obtain ⟨N, rfl⟩ : ∃ i, N = i + 1 := ⟨N - 1, by omega⟩
    show Rt (LB_X12_apart_34 (LF_X12_apart N) x1 x2 x3 x4 x5 σ) _
    unfold LB_X12_apart_34
    refine Rt_t (i_le (show (10 : Int) ≤ _ by omega)) ?_
    refine Rt_fl (fun σ2 e2 => ?_)
    have z : FXz σ0 σ2 := fun id k h => by
      by_cases c : id = 74 ∧ k = 28
      · obtain ⟨rfl, rfl⟩ := c
        rw [e2, gi_si_eq, h28]
      · rw [e2, gi_si_ne (by omega)]; exact f id k h c
    by_cases c : x2.toInt = 0
    · rw [if_pos c]; exact Rt_t (i_eq c) (Rt_p ⟨h3, z⟩)
    · rw [if_neg c]; exact Rt_f (i_ne c) (Rt_p ⟨h4, z⟩)
  | succ i ih =>
    intro k N x3 x4 x5 b m σ hi hN h3 h4 h5 f
    obtain ⟨N, rfl⟩ : ∃ i, N = i + 1 := ⟨N - 1, by omega⟩
    show Rt (LB_X12_apart_34 (LF_X12_apart N) x1 x2 x3 x4 x5 σ) _
    unfold LB_X12_apart_34
    refine Rt_f (i_nle (show _ < (10 : Int) by omega)) ?_
    refine Rt_fl (fun σ4 e4 => ?_)
    have g4 : ∀ id k, ¬ Pz id k → ¬ (id = 74 ∧ k = 28) → gi σ4 id k = gi σ0 id k := fun id k a b => by rw [e4, gi_si_ne (by omega)]; exact f id k a b
    have s4 : MT n (sGp k S) σ4 := MT_gp (σ := σ0) (fun id j a => g4 id j (by unfold Pz; omega) (by omega)) (by rw [e4, gi_si_eq]; exact h5) (by omega) hs.2
    have s4' : MS n (sGp k S) σ4 := ⟨by rw [g4 74 0 (by unfold Pz; omega) (by omega)]; exact hs.1, s4⟩
    have d4 : MDy n D σ4 := MDy_eq (fun id j a => g4 id j (by unfold Pz; omega) (by omega)) hd
    refine Rt_fb (absM (SBd_gp sb (by omega)) db (by omega) s4' d4 h1 h60) (fun r6 σ5 ⟨v, z⟩ => ?_)
    have f5 : FXg9 σ0 σ5 := fun id k a b => (z id k a).trans (g4 id k a b)
    rw [aBst_s]
    by_cases c : m < tot n (aMins (sGp k S) j D)
    · refine Rt_t (i_lt (by omega)) ?_
      rw [if_pos c]
      refine Rt_fl (fun v6 e6 => ?_)
      exact ih (k + 1) N x5 r6 v6 _ _ σ5 (by omega) (by omega) h5 v (by rw [e6, i_inc (by omega)]; omega) f5
    · refine Rt_f (i_nlt (by omega)) ?_
      rw [if_neg c]
      refine Rt_fl (fun v6 e6 => ?_)
      exact ih (k + 1) N x3 x4 v6 _ _ σ5 (by omega) (by omega) h3 h4 (by rw [e6, i_inc (by omega)]; omega) f5
noncomputable def r_apart (n : Nat) (S : Stc) (D : Dyn) (a1 a2 : Int) : Int :=
  if 0 ≤ a2 ∧ a2 ≤ 1 then (if 1 ≤ a1 ∧ a1 ≤ 60 then (if a2 = 0 then (aBst (fun k => tot n (aMins (sGp k S) a1.toNat D)) 10 0 0 (-1)).1 else (aBst (fun k => tot n (aMins (sGp k S) a1.toNat D)) 10 0 0 (-1)).2) else -2) else -1
theorem apartM {n : Nat} {K : Int} {S : Stc} {D : Dyn} {σ : Sg} {a1 a2 : Int32} (h : HMo n K S D σ) (h28 : gi σ 74 28 = (-1 : Int32)) : Rt (F_X12_apart a1 a2 σ) (fun r σ' => r.toInt = r_apart n S D a1.toInt a2.toInt ∧ FXz σ σ') := by
  unfold F_X12_apart r_apart
  refine Rt_fe F_in ?_
  by_cases c : 0 ≤ a2.toInt ∧ a2.toInt ≤ 1
  · rw [if_pos (show (0 : Int32).toInt ≤ a2.toInt ∧ a2.toInt ≤ (1 : Int32).toInt from c), if_pos c]
    refine Rt_f (by decide) ?_
    refine Rt_fe F_in ?_
    by_cases d : 1 ≤ a1.toInt ∧ a1.toInt ≤ 60
    · rw [if_pos (show (1 : Int32).toInt ≤ a1.toInt ∧ a1.toInt ≤ (60 : Int32).toInt from d), if_pos d]
      refine Rt_f (by decide) ?_
      obtain ⟨j, hj⟩ : ∃ j : Nat, a1.toInt = (j : Int) := ⟨a1.toInt.toNat, by omega⟩
      rw [hj, show ((j : Int)).toNat = j from by omega]
      exact aptLM h h28 hj (by omega) 10 0 20 (0 : Int32) (-1 : Int32) (0 : Int32) 0 (-1) σ (by decide) (by decide) rfl rfl rfl (fun _ _ _ _ => rfl)
    · rw [if_neg (show ¬ ((1 : Int32).toInt ≤ a1.toInt ∧ a1.toInt ≤ (60 : Int32).toInt) from d), if_neg d]
      exact Rt_t rfl (Rt_p ⟨rfl, FXz_rf⟩)
  · rw [if_neg (show ¬ ((0 : Int32).toInt ≤ a2.toInt ∧ a2.toInt ≤ (1 : Int32).toInt) from c), if_neg c]
    exact Rt_t rfl (Rt_p ⟨rfl, FXz_rf⟩)
/-! rest -/
theorem rstLM {n j : Nat} {K : Int} {S : Stc} {D : Dyn} {x1 x2 : Int32} (h1 : x1.toInt = (j : Int)) (h60 : j ≤ 60) : ∀ (i k N : Nat) (x3 x4 x5 : Int32) (b m : Int) (σ : Sg), i + k = n → i < N → x4.toInt = b → x3.toInt = m → x5.toInt = (k : Int) → HMo n K S D σ →
    Rt (LF_X12_rest N x1 x2 x3 x4 x5 σ) (fun r σ' => r.toInt = (if (aBst (fun k => tot n (aMins S j (aStp k 5 D))) i k b m).1 < 0 ∨ x2.toInt = 0 then (aBst (fun k => tot n (aMins S j (aStp k 5 D))) i k b m).1 else (aBst (fun k => tot n (aMins S j (aStp k 5 D))) i k b m).2) ∧ FXz σ σ') := by
  intro i
  induction i with
  | zero =>
    intro k N x3 x4 x5 b m σ hi hN h4 h3 h5 h
    have hn := h.2.2.2.2.2.1.1
    obtain ⟨N, rfl⟩ : ∃ i, N = i + 1 := ⟨N - 1, by omega⟩
    show Rt (LB_X12_rest_39 (LF_X12_rest N) x1 x2 x3 x4 x5 σ) (fun r σ' => r.toInt = (if b < 0 ∨ x2.toInt = 0 then b else m) ∧ FXz σ σ')
    unfold LB_X12_rest_39
    refine Rt_t (i_le (by omega)) ?_
    by_cases c0 : b < 0
    · rw [if_pos (show b < 0 ∨ x2.toInt = 0 from Or.inl c0)]; exact Rt_t (i_lt0 (by omega)) (Rt_p ⟨h4, FXz_rf⟩)
    refine Rt_f (i_nlt0 (by omega)) ?_
    by_cases c : x2.toInt = 0
    · rw [if_pos (show b < 0 ∨ x2.toInt = 0 from Or.inr c)]; exact Rt_t (i_eq c) (Rt_p ⟨h4, FXz_rf⟩)
    · rw [if_neg (show ¬ (b < 0 ∨ x2.toInt = 0) from fun z => z.elim c0 c)]; exact Rt_f (i_ne c) (Rt_p ⟨h3, FXz_rf⟩)
  | succ i ih =>
    intro k N x3 x4 x5 b m σ hi hN h4 h3 h5 h
    have hn := h.2.2.2.2.2.1.1
    have n6 := h.1.1
    obtain ⟨N, rfl⟩ : ∃ i, N = i + 1 := ⟨N - 1, by omega⟩
    show Rt (LB_X12_rest_39 (LF_X12_rest N) x1 x2 x3 x4 x5 σ) _
    unfold LB_X12_rest_39
    refine Rt_f (i_nle (by omega)) ?_
    refine Rt_fb (astM (m := k) (r := 5) h.1 h.2.1 (by have := h.2.2.1; omega) h.2.2.2.2.2.1 h.2.2.2.2.2.2 h5 (by omega) (h.2.2.2.2.1 k (by omega)) rfl (by decide) h1 h60) (fun r4 σ3 ⟨v, z⟩ => ?_)
    rw [aBst_s]
    by_cases c : m < tot n (aMins S j (aStp k 5 D))
    · refine Rt_t (i_lt (by omega)) ?_
      rw [if_pos c]
      refine Rt_fl (fun v6 e6 => ?_)
      exact Rt_w (ih (k + 1) N r4 x5 v6 _ _ σ3 (by omega) (by omega) h5 v (by rw [e6, i_inc (by omega)]; omega) (HMo_z z h)) (fun r σ' q => ⟨q.1, FXz_tr z q.2⟩)
    · refine Rt_f (i_nlt (by omega)) ?_
      rw [if_neg c]
      refine Rt_fl (fun v6 e6 => ?_)
      exact Rt_w (ih (k + 1) N x3 x4 v6 _ _ σ3 (by omega) (by omega) h4 h3 (by rw [e6, i_inc (by omega)]; omega) (HMo_z z h)) (fun r σ' q => ⟨q.1, FXz_tr z q.2⟩)
noncomputable def r_rest (n : Nat) (S : Stc) (D : Dyn) (a1 a2 : Int) : Int :=
  if 0 ≤ a2 ∧ a2 ≤ 1 then (if 1 ≤ a1 ∧ a1 ≤ 60 then (if (aBst (fun k => tot n (aMins S a1.toNat (aStp k 5 D))) n 0 (-5) (tot n (aMins S a1.toNat D))).1 < 0 ∨ a2 = 0 then (aBst (fun k => tot n (aMins S a1.toNat (aStp k 5 D))) n 0 (-5) (tot n (aMins S a1.toNat D))).1 else (aBst (fun k => tot n (aMins S a1.toNat (aStp k 5 D))) n 0 (-5) (tot n (aMins S a1.toNat D))).2) else -2) else -1
theorem restM {n : Nat} {K : Int} {S : Stc} {D : Dyn} {σ : Sg} {a1 a2 : Int32} (h : HMo n K S D σ) : Rt (F_X12_rest a1 a2 σ) (fun r σ' => r.toInt = r_rest n S D a1.toInt a2.toInt ∧ FXz σ σ') := by
  have n6 := h.1.1
  unfold F_X12_rest r_rest
  refine Rt_fe F_in ?_
  by_cases c : 0 ≤ a2.toInt ∧ a2.toInt ≤ 1
  · rw [if_pos (show (0 : Int32).toInt ≤ a2.toInt ∧ a2.toInt ≤ (1 : Int32).toInt from c), if_pos c]
    refine Rt_f (by decide) ?_
    refine Rt_fe F_in ?_
    by_cases d : 1 ≤ a1.toInt ∧ a1.toInt ≤ 60
    · rw [if_pos (show (1 : Int32).toInt ≤ a1.toInt ∧ a1.toInt ≤ (60 : Int32).toInt from d), if_pos d]
      refine Rt_f (by decide) ?_
      obtain ⟨j, hj⟩ : ∃ j : Nat, a1.toInt = (j : Int) := ⟨a1.toInt.toNat, by omega⟩
      rw [hj, show ((j : Int)).toNat = j from by omega]
      refine Rt_fb (absM h.1 h.2.1 (by have := h.2.2.1; omega) h.2.2.2.2.2.1 h.2.2.2.2.2.2 hj (by omega)) (fun r8 σ7 ⟨v, z⟩ => ?_)
      exact Rt_w (rstLM hj (by omega) n 0 20 r8 (-5 : Int32) (0 : Int32) (-5) _ σ7 (by omega) (by omega) rfl v rfl (HMo_z z h)) (fun r σ' q => ⟨q.1, FXz_tr z q.2⟩)
    · rw [if_neg (show ¬ ((1 : Int32).toInt ≤ a1.toInt ∧ a1.toInt ≤ (60 : Int32).toInt) from d), if_neg d]
      exact Rt_t rfl (Rt_p ⟨rfl, FXz_rf⟩)
  · rw [if_neg (show ¬ ((0 : Int32).toInt ≤ a2.toInt ∧ a2.toInt ≤ (1 : Int32).toInt) from c), if_neg c]
    exact Rt_t rfl (Rt_p ⟨rfl, FXz_rf⟩)
/-! paused -/
noncomputable def aPz (S : Stc) (N k : Nat) (D : Dyn) : Dyn := aMins S (N - k) (aPas 5 15 (aMins S k D))
theorem psdLM {n j : Nat} {K : Int} {S : Stc} {D : Dyn} {x1 x2 : Int32} (h1 : x1.toInt = (j : Int)) (h30 : j ≤ 30) : ∀ (i k N : Nat) (x3 x4 x5 : Int32) (b m : Int) (σ : Sg), i + k = j + 1 → i < N → x3.toInt = b → x4.toInt = m → x5.toInt = (k : Int) → HMo n K S D σ →
    Rt (LF_X12_paused N x1 x2 x3 x4 x5 σ) (fun r σ' => r.toInt = (if x2.toInt = 0 then (aBst (fun k => tot n (aPz S j k D)) i k b m).1 else (aBst (fun k => tot n (aPz S j k D)) i k b m).2) ∧ FXz σ σ') := by
  intro i
  induction i with
  | zero =>
    intro k N x3 x4 x5 b m σ hi hN h3 h4 h5 h
    obtain ⟨N, rfl⟩ : ∃ i, N = i + 1 := ⟨N - 1, by omega⟩
    show Rt (LB_X12_paused_34 (LF_X12_paused N) x1 x2 x3 x4 x5 σ) _
    unfold LB_X12_paused_34
    refine Rt_t (i_lt (by omega)) ?_
    by_cases c : x2.toInt = 0
    · rw [if_pos c]; exact Rt_t (i_eq c) (Rt_p ⟨h3, FXz_rf⟩)
    · rw [if_neg c]; exact Rt_f (i_ne c) (Rt_p ⟨h4, FXz_rf⟩)
  | succ i ih =>
    intro k N x3 x4 x5 b m σ hi hN h3 h4 h5 h
    obtain ⟨sb, db, hK, hr, h99, hs, hd⟩ := id h
    have n6 := sb.1
    obtain ⟨N, rfl⟩ : ∃ i, N = i + 1 := ⟨N - 1, by omega⟩
    show Rt (LB_X12_paused_34 (LF_X12_paused N) x1 x2 x3 x4 x5 σ) _
    unfold LB_X12_paused_34
    refine Rt_f (i_nlt (by omega)) ?_
    refine Rt_fs (savM n6 hs hd) (fun σ3 ⟨k3, s3, d3, _, _⟩ => ?_)
    refine Rt_fs (gosM9 sb h5 (by omega) (by omega) db s3.2 d3) (fun σ4 ⟨d4, f4, _⟩ => ?_)
    have s4 := MS_q f4 s3
    have db4 := aMins_b sb k D K db
    refine Rt_fs (pausM (j := 5) sb db4 (by omega) rfl (by decide) s4 d4) (fun σ5 ⟨d5, f5⟩ => ?_)
    have s5 := MS_q f5 s4
    have db5 := aPas_b (u := 5) (v := 15) db4 (by decide) (by decide)
    have jk : (x1 - x5).toInt = ((j - k : Nat) : Int) := by rw [i_sub (by omega) (by omega)]; omega
    refine Rt_fs (gosM9 sb jk (by omega) (by omega) db5 s5.2 d5) (fun σ6 ⟨d6, f6, _⟩ => ?_)
    have s6 := MS_q f6 s5
    obtain ⟨r8, e, v⟩ := allM n6 s6.1 (aMins_b sb (j - k) _ _ db5) d6
    refine Rt_fe e ?_
    refine Rt_fs (putM (KP_q n6 (KP_q n6 (KP_q n6 k3 f4) f5) f6)) (fun σ9 z => ?_)
    replace v : r8.toInt = tot n (aPz S j k D) := v
    rw [aBst_s]
    by_cases c : m < tot n (aPz S j k D)
    · refine Rt_t (i_lt (by omega)) ?_
      rw [if_pos c]
      refine Rt_fl (fun v6 e6 => ?_)
      exact Rt_w (ih (k + 1) N x5 r8 v6 _ _ σ9 (by omega) (by omega) h5 v (by rw [e6, i_inc (by omega)]; omega) (HMo_z z h)) (fun r σ' q => ⟨q.1, FXz_tr z q.2⟩)
    · refine Rt_f (i_nlt (by omega)) ?_
      rw [if_neg c]
      refine Rt_fl (fun v6 e6 => ?_)
      exact Rt_w (ih (k + 1) N x3 x4 v6 _ _ σ9 (by omega) (by omega) h3 h4 (by rw [e6, i_inc (by omega)]; omega) (HMo_z z h)) (fun r σ' q => ⟨q.1, FXz_tr z q.2⟩)
noncomputable def r_paused (n : Nat) (S : Stc) (D : Dyn) (a1 a2 : Int) : Int :=
  if 0 ≤ a2 ∧ a2 ≤ 1 then (if 1 ≤ a1 ∧ a1 ≤ 30 then (if a2 = 0 then (aBst (fun k => tot n (aPz S a1.toNat k D)) (a1.toNat + 1) 0 0 (-1)).1 else (aBst (fun k => tot n (aPz S a1.toNat k D)) (a1.toNat + 1) 0 0 (-1)).2) else -2) else -1
theorem pausedM {n : Nat} {K : Int} {S : Stc} {D : Dyn} {σ : Sg} {a1 a2 : Int32} (h : HMo n K S D σ) : Rt (F_X12_paused a1 a2 σ) (fun r σ' => r.toInt = r_paused n S D a1.toInt a2.toInt ∧ FXz σ σ') := by
  unfold F_X12_paused r_paused
  refine Rt_fe F_in ?_
  by_cases c : 0 ≤ a2.toInt ∧ a2.toInt ≤ 1
  · rw [if_pos (show (0 : Int32).toInt ≤ a2.toInt ∧ a2.toInt ≤ (1 : Int32).toInt from c), if_pos c]
    refine Rt_f (by decide) ?_
    refine Rt_fe F_in ?_
    by_cases d : 1 ≤ a1.toInt ∧ a1.toInt ≤ 30
    · rw [if_pos (show (1 : Int32).toInt ≤ a1.toInt ∧ a1.toInt ≤ (30 : Int32).toInt from d), if_pos d]
      refine Rt_f (by decide) ?_
      obtain ⟨j, hj⟩ : ∃ j : Nat, a1.toInt = (j : Int) := ⟨a1.toInt.toNat, by omega⟩
      rw [hj, show ((j : Int)).toNat = j from by omega]
      exact psdLM hj (by omega) (j + 1) 0 60 (0 : Int32) (-1 : Int32) (0 : Int32) 0 (-1) σ (by omega) (by omega) rfl rfl rfl h
    · rw [if_neg (show ¬ ((1 : Int32).toInt ≤ a1.toInt ∧ a1.toInt ≤ (30 : Int32).toInt) from d), if_neg d]
      exact Rt_t rfl (Rt_p ⟨rfl, FXz_rf⟩)
  · rw [if_neg (show ¬ ((0 : Int32).toInt ≤ a2.toInt ∧ a2.toInt ≤ (1 : Int32).toInt) from c), if_neg c]
    exact Rt_t rfl (Rt_p ⟨rfl, FXz_rf⟩)
/-! planned -/
noncomputable def aPl1 (S : Stc) (v : Int) (D : Dyn) : Dyn := if v = 0 then (aMin S D).2 else if v = 1 then aWhe D else if v = 2 then aPas 1 3 D else D
noncomputable def aPln (S : Stc) (f : Nat → Int) : Nat → Nat → Dyn → Dyn
  | 0, _, D => D
  | j + 1, i, D => aPln S f j (i + 1) (aPl1 S (f i) D)
theorem aPl1_b {n : Nat} {S : Stc} {D : Dyn} {K v : Int} (h : SBd n S) (d : DBd n K D) : DBd n (K + 1) (aPl1 S v D) := by
  unfold aPl1
  split
  · exact aMin_b h d
  split
  · exact aWhe_b d
  split
  · exact aPas_b d (by decide) (by decide)
  · exact ⟨by have := d.1; omega, d.2⟩
theorem plnLM {n P : Nat} {S : Stc} {f : Nat → Int} {σ0 : Sg} (sb : SBd n S) (hP : P ≤ 10) : ∀ (j i N : Nat) (x1 : Int32) (D : Dyn) (K : Int) (σ : Sg), i + j = P → 2 * j + 1 ≤ N → x1.toInt = (i : Int) → K + (j : Int) ≤ 100000 → DBd n K D → MS n S σ → MDy n D σ → KP σ0 σ → (gi σ 74 45).toInt = (P : Int) → (∀ k, k < P → (gi σ 147 k).toInt = f k) →
    Rt (LF_X12_planned N 0 x1 σ) (fun r σ' => r.toInt = tot n (aPln S f j i D) ∧ FXz σ0 σ') := by
  have n6 := sb.1
  intro j
  induction j with
  | zero =>
    intro i N x1 D K σ hj hN hx hK db hs hd hk h45 hf
    obtain ⟨N, rfl⟩ : ∃ i, N = i + 1 := ⟨N - 1, by omega⟩
    show Rt (LB_X12_planned_6 (LF_X12_planned N) x1 σ) _
    unfold LB_X12_planned_6
    refine Rt_t (i_le (by omega)) ?_
    obtain ⟨r, e, v⟩ := allM n6 hs.1 db hd
    refine Rt_fe e ?_
    exact Rt_fs (putM hk) (fun σ5 z5 => Rt_p ⟨v, z5⟩)
  | succ j ih =>
    intro i N x1 D K σ hj hN hx hK db hs hd hk h45 hf
    obtain ⟨N, rfl⟩ : ∃ i, N = i + 2 := ⟨N - 2, by omega⟩
    have ex := cl_eq (x := x1) (by omega)
    have ep : x1.toNatClampNeg = i := by omega
    have hfi := hf i (by omega)
    show Rt (LB_X12_planned_6 (LF_X12_planned (N + 1)) x1 σ) (fun r σ' => r.toInt = tot n (aPln S f j (i + 1) (aPl1 S (f i) D)) ∧ FXz σ0 σ')
    unfold LB_X12_planned_6
    refine Rt_f (i_nle (by omega)) ?_
    rw [ep]
    have go : ∀ (σ5 : Sg) (D' : Dyn) (v : Int32), D' = aPl1 S (f i) D → v.toInt = ((i + 1 : Nat) : Int) → FXq n σ σ5 → MDy n D' σ5 → Rt (LF_X12_planned N 0 v σ5) (fun r σ' => r.toInt = tot n (aPln S f j (i + 1) (aPl1 S (f i) D)) ∧ FXz σ0 σ') := by
      intro σ5 D' v e hv f5 d5
      rw [e] at d5
      exact ih (i + 1) N v _ (K + 1) σ5 (by omega) (by omega) hv (by omega) (aPl1_b sb db) (MS_q f5 hs) d5 (KP_q n6 hk f5) (by rw [FXq_i f5 (by omega)]; exact h45) (fun k hk' => by rw [FXq_i f5 (by omega)]; exact hf k hk')
    have no2 : ∀ (σ5 : Sg) (D' : Dyn), f i ≠ 2 → D' = aPl1 S (f i) D → FXq n σ σ5 → MDy n D' σ5 → Rt (LF_X12_planned (N + 1) 1 x1 σ5) (fun r σ' => r.toInt = tot n (aPln S f j (i + 1) (aPl1 S (f i) D)) ∧ FXz σ0 σ') := by
      intro σ5 D' h2 e f5 d5
      show Rt (LB_X12_planned_42 (LF_X12_planned N) x1 σ5) _
      unfold LB_X12_planned_42
      rw [ep, FXq_i f5 (by omega)]
      refine Rt_f (i_ne (show _ ≠ (2 : Int) by omega)) ?_
      refine Rt_fl (fun v e9 => ?_)
      exact go σ5 D' v e (by rw [e9, i_inc (by omega)]; omega) f5 d5
    by_cases c0 : f i = 0
    · refine Rt_t (i_eq (show _ = (0 : Int) by omega)) ?_
      refine Rt_fs (gosM9 (j := 1) sb rfl (by decide) (by omega) db hs.2 hd) (fun σ5 ⟨d5, f5, _⟩ => ?_)
      rw [FXq_i f5 (by omega)]
      refine Rt_f (i_ne (show _ ≠ (1 : Int) by omega)) ?_
      exact no2 σ5 (aMin S D).2 (by omega) (by unfold aPl1; rw [if_pos c0]) f5 d5
    · refine Rt_f (i_ne (show _ ≠ (0 : Int) by omega)) ?_
      by_cases c1 : f i = 1
      · refine Rt_t (i_eq (show _ = (1 : Int) by omega)) ?_
        refine Rt_fs (whetM sb db (by omega) hs hd) (fun σ5 ⟨d5, f5⟩ => ?_)
        exact no2 σ5 (aWhe D) (by omega) (by unfold aPl1; rw [if_neg c0, if_pos c1]) f5 d5
      · refine Rt_f (i_ne (show _ ≠ (1 : Int) by omega)) ?_
        by_cases c2 : f i = 2
        · show Rt (LB_X12_planned_42 (LF_X12_planned N) x1 σ) _
          unfold LB_X12_planned_42
          rw [ep]
          refine Rt_t (i_eq (show _ = (2 : Int) by omega)) ?_
          refine Rt_fs (pausM (j := 1) sb db (by omega) rfl (by decide) hs hd) (fun σ5 ⟨d5, f5⟩ => ?_)
          refine Rt_fl (fun v e9 => ?_)
          exact go σ5 (aPas 1 3 D) v (by unfold aPl1; rw [if_neg c0, if_neg c1, if_pos c2]) (by rw [e9, i_inc (by omega)]; omega) f5 d5
        · exact no2 σ D c2 (by unfold aPl1; rw [if_neg c0, if_neg c1, if_neg c2]) FXq_rf hd
theorem plannedM {n P : Nat} {K : Int} {S : Stc} {D : Dyn} {f : Nat → Int} {σ : Sg} (h : HMo n K S D σ) (hP : P ≤ 10) (h45 : (gi σ 74 45).toInt = (P : Int)) (hf : ∀ k, k < P → (gi σ 147 k).toInt = f k) : Rt (F_X12_planned σ) (fun r σ' => r.toInt = tot n (aPln S f P 0 D) ∧ FXz σ σ') := by
  obtain ⟨sb, db, hK, hr, h99, hs, hd⟩ := h
  unfold F_X12_planned
  exact Rt_fs (savM sb.1 hs hd) (fun σ1 ⟨k1, s1, d1, t1, z1⟩ => plnLM sb hP P 0 300 (0 : Int32) D K σ1 (by omega) (by omega) rfl (by omega) db s1 d1 k1 (by rw [FXz_i z1 (by omega)]; exact h45) (fun k hk => by rw [FXz_i z1 (by omega)]; exact hf k hk))
