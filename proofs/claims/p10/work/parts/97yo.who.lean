/-! planned, who: the same answers -/
theorem plnLC {n P : Nat} {S : Stc} {f : Nat → Int} {σ0 : Sg} (sb : SBd n S) (hP : P ≤ 10) (h11 : (gi σ0 11 1).toInt = (P : Int)) (hf : ∀ k, k < P → (gi σ0 12 k).toInt = f k ∧ 0 ≤ f k ∧ f k ≤ 2) : ∀ (j i N : Nat) (x1 : Int32) (D : Dyn) (K : Int) (σ : Sg), i + j = P → j < N → x1.toInt = (i : Int) → K + (j : Int) ≤ 100000 → DBd n K D → CS 33 n S σ → CDy 33 n D σ → FXv σ0 σ →
    Rt (LF_X11_planned N x1 σ) (fun r _ => r.toInt = tot n (aPln S f j i D)) := by
  have n6 := sb.1
  intro j
  induction j with
  | zero =>
    intro i N x1 D K σ hj hN hx hK db cs cd fv
    obtain ⟨N, rfl⟩ : ∃ i, N = i + 1 := ⟨N - 1, by omega⟩
    have e11 : gi σ 11 1 = gi σ0 11 1 := FXv_i fv (by omega)
    show Rt (LB_X11_planned_13 (LF_X11_planned N) x1 σ) _
    unfold LB_X11_planned_13
    refine Rt_t (i_le (by rw [e11]; omega)) ?_
    obtain ⟨r, e, v⟩ := allC (c0 := 33) n6 cs.1 db cd
    refine Rt_fe e ?_
    exact Rt_p v
  | succ j ih =>
    intro i N x1 D K σ hj hN hx hK db cs cd fv
    obtain ⟨N, rfl⟩ : ∃ i, N = i + 1 := ⟨N - 1, by omega⟩
    have ex := cl_eq (x := x1) (by omega)
    have ep : x1.toNatClampNeg = i := by omega
    have e11 : gi σ 11 1 = gi σ0 11 1 := FXv_i fv (by omega)
    have e12 : gi σ 12 i = gi σ0 12 i := FXv_i fv (by omega)
    obtain ⟨hfi, f0, f2⟩ := hf i (by omega)
    show Rt (LB_X11_planned_13 (LF_X11_planned N) x1 σ) (fun r _ => r.toInt = tot n (aPln S f j (i + 1) (aPl1 S (f i) D)))
    unfold LB_X11_planned_13
    refine Rt_f (i_nle (by rw [e11]; omega)) ?_
    rw [ep]
    refine Rt_fl (fun v5 e5 => ?_)
    have h5 : v5.toInt = f i := by rw [e5, e12]; exact hfi
    have go : ∀ (σ5 : Sg) (D' : Dyn) (v : Int32), D' = aPl1 S (f i) D → v = x1 + 1 → FXn 33 n σ σ5 → CDy 33 n D' σ5 → Rt (LF_X11_planned N v σ5) (fun r _ => r.toInt = tot n (aPln S f j (i + 1) (aPl1 S (f i) D))) := by
      intro σ5 D' v e hv g5 d5
      rw [e] at d5
      exact ih (i + 1) N v _ (K + 1) σ5 (by omega) (by omega) (by rw [hv, i_inc (by omega)]; omega) (by omega) (aPl1_b sb db) (CS_m (by decide) g5 cs) d5 (FXv_tr fv (FXn_v g5))
    by_cases c0 : f i = 0
    · refine Rt_t (i_eq (show _ = (0 : Int) by omega)) ?_
      refine Rt_fb (minC (c0 := 33) (by decide) sb db (by omega) cs cd) (fun r6 σ5 ⟨_, d5, g5⟩ => ?_)
      exact Rt_fl (fun v e => go σ5 _ v (by unfold aPl1; rw [if_pos c0]) e g5 d5)
    · refine Rt_f (i_ne (show _ ≠ (0 : Int) by omega)) ?_
      by_cases c1 : f i = 1
      · refine Rt_t (i_eq (show _ = (1 : Int) by omega)) ?_
        refine Rt_fs (whetC (c0 := 33) (by decide) sb db (by omega) cs cd) (fun σ5 ⟨d5, g5⟩ => ?_)
        exact Rt_fl (fun v e => go σ5 _ v (by unfold aPl1; rw [if_neg c0, if_pos c1]) e g5 d5)
      · refine Rt_f (i_ne (show _ ≠ (1 : Int) by omega)) ?_
        refine Rt_fs (restC (c0 := 33) (j := 1) (by decide) sb db (by omega) rfl (by decide) cs cd) (fun σ5 ⟨d5, g5⟩ => ?_)
        exact Rt_fl (fun v e => go σ5 (aPas 1 3 D) v (by unfold aPl1; rw [if_neg c0, if_neg c1, if_pos (show f i = 2 by omega)]) e g5 d5)
theorem plannedC {n P : Nat} {K : Int} {S : Stc} {D : Dyn} {f : Nat → Int} {σ : Sg} (h : HCl n K S D σ) (hP : P ≤ 10) (h11 : (gi σ 11 1).toInt = (P : Int)) (hf : ∀ k, k < P → (gi σ 12 k).toInt = f k ∧ 0 ≤ f k ∧ f k ≤ 2) : Rt (F_X11_planned σ) (fun r _ => r.toInt = tot n (aPln S f P 0 D)) := by
  unfold F_X11_planned
  exact Rt_fs (HCl_bec h) (fun σ1 ⟨s1, d1, f1⟩ => plnLC h.1 hP h11 hf P 0 90 (0 : Int32) D K σ1 (by omega) (by omega) rfl (by have := h.2.2.1; omega) h.2.1 s1 d1 f1)
theorem A_planned {V : Vx} {r1 r2 : Int32} {σ σ1 σ2 : Sg} (q : RELM σ) (s : SNP σ) (hI : INV V σ) (f : MA σ σ1) (h1 : F_X11_planned σ = (r1, σ1)) (h2 : F_X12_planned σ1 = (r2, σ2)) : r1 = r2 := by
  obtain ⟨n, S, D, c, m, si⟩ := HXC q hI f
  obtain ⟨⟨-, -, -, c45, -⟩, -⟩ := q.1.1
  have b45 := MI_f45 hI.2.1
  obtain ⟨t, ht⟩ : ∃ t : Nat, (gi σ 74 45).toInt = (t : Int) := ⟨(gi σ 74 45).toInt.toNat, by omega⟩
  have h11 : (gi σ 11 1).toInt = (t : Int) := by omega
  have A := Rt_of (plannedC (f := fun k => (gi σ 147 k).toInt) c (by omega) h11 (fun k hk => by
    have z := s.2.2.1 k (by show (k : Int) < (gi σ 11 1).toInt; omega)
    exact ⟨congrArg Int32.toInt z.1, z.2⟩)) h1
  have B := Rt_of (plannedM (f := fun k => (gi σ 147 k).toInt) m (show t ≤ 10 by omega) (by rw [f 74 (by decide) (by decide) 45]; exact ht) (fun k hk => by rw [f 147 (by decide) (by decide) k])) h2
  exact i_eq (A.trans B.1.symm)
/-! who -/
theorem i_pl {x c : Int32} {k : Int} (hc : c.toInt = k) (h1 : -2147483648 ≤ x.toInt + k) (h2 : x.toInt + k ≤ 2147483647) : (x + c).toInt = x.toInt + k := by rw [i_add (by omega) (by omega), hc]
noncomputable def CSe (T : Nat) (wo wn : Nat → Nat) (sa : Nat → Int) (σ : Sg) : Prop := (gi σ 9 1).toInt = 3 * (T : Int) ∧ ∀ k, k < T → (gi σ 10 (3 * k)).toInt = (wo k : Int) ∧ (gi σ 10 (3 * k + 1)).toInt = (wn k : Int) ∧ (gi σ 10 (3 * k + 2)).toInt = sa k
noncomputable def MSe (T : Nat) (wo wn : Nat → Nat) (sa : Nat → Int) (σ : Sg) : Prop := (gi σ 74 41).toInt = (T : Int) ∧ ∀ k, k < T → (gi σ 142 k).toInt = (wo k : Int) ∧ (gi σ 143 k).toInt = (wn k : Int) ∧ (gi σ 144 k).toInt = sa k
theorem CSe_eq {T : Nat} {wo wn : Nat → Nat} {sa : Nat → Int} {σ σ' : Sg} (e : ∀ id k, id = 9 ∨ id = 10 → gi σ' id k = gi σ id k) (h : CSe T wo wn sa σ) : CSe T wo wn sa σ' :=
  ⟨by rw [e 9 1 (Or.inl rfl)]; exact h.1, fun k hk => by rw [e 10 _ (Or.inr rfl), e 10 _ (Or.inr rfl), e 10 _ (Or.inr rfl)]; exact h.2 k hk⟩
theorem MSe_eq {T : Nat} {wo wn : Nat → Nat} {sa : Nat → Int} {σ σ' : Sg} (e : ∀ id k, (id = 74 ∧ k = 41) ∨ (142 ≤ id ∧ id ≤ 144) → gi σ' id k = gi σ id k) (h : MSe T wo wn sa σ) : MSe T wo wn sa σ' :=
  ⟨by rw [e 74 41 (by omega)]; exact h.1, fun k hk => by rw [e 142 _ (by omega), e 143 _ (by omega), e 144 _ (by omega)]; exact h.2 k hk⟩
theorem seLC {n T t : Nat} {wo wn : Nat → Nat} {sa : Nat → Int} {D : Dyn} {σ : Sg} {x1 : Int32} (hT : T ≤ 6) (he : CSe T wo wn sa σ) (hw : ∀ k, k < T → wo k < n) (hd : CDy 33 n D σ) (h1 : x1.toInt = (t : Int)) : ∀ (j k N : Nat) (x3 : Int32), j + k = T → j < N → x3.toInt = 3 * (k : Int) →
    Rt (LF_X11_seenIsSo N x1 x3 σ) (fun r σ' => σ' = σ ∧ ((r = 1 ∧ ∀ i, k ≤ i → i < T → wn i = t → D_at D (wo i) = sa i) ∨ (r = 0 ∧ ¬ ∀ i, k ≤ i → i < T → wn i = t → D_at D (wo i) = sa i))) := by
  intro j
  induction j with
  | zero =>
    intro k N x3 hj hN h3
    obtain ⟨N, rfl⟩ : ∃ i, N = i + 1 := ⟨N - 1, by omega⟩
    have e2 : (x3 + (2 : Int32)).toInt = x3.toInt + 2 := i_pl rfl (by omega) (by omega)
    have h9 := he.1
    show Rt (LB_X11_seenIsSo_13 (LF_X11_seenIsSo N) x1 x3 σ) _
    unfold LB_X11_seenIsSo_13
    refine Rt_t (i_le (by omega)) ?_
    exact ⟨rfl, Or.inl ⟨rfl, fun i a b => by omega⟩⟩
  | succ j ih =>
    intro k N x3 hj hN h3
    obtain ⟨N, rfl⟩ : ∃ i, N = i + 1 := ⟨N - 1, by omega⟩
    have e1 : (x3 + (1 : Int32)).toInt = x3.toInt + 1 := i_pl rfl (by omega) (by omega)
    have e2 : (x3 + (2 : Int32)).toInt = x3.toInt + 2 := i_pl rfl (by omega) (by omega)
    have e3 : (x3 + (3 : Int32)).toInt = x3.toInt + 3 := i_pl rfl (by omega) (by omega)
    have c0 := cl_eq (x := x3) (by omega)
    have c1 := cl_eq (x := x3 + (1 : Int32)) (by omega)
    have c2 := cl_eq (x := x3 + (2 : Int32)) (by omega)
    have n0 : x3.toNatClampNeg = 3 * k := by omega
    have n1 : (x3 + (1 : Int32)).toNatClampNeg = 3 * k + 1 := by omega
    have n2 : (x3 + (2 : Int32)).toNatClampNeg = 3 * k + 2 := by omega
    have h9 := he.1
    obtain ⟨a0, a1, a2⟩ := he.2 k (by omega)
    have cw := cl_eq (x := gi σ 10 (3 * k)) (by omega)
    have ha : (gi σ 36 (wo k)).toInt = D_at D (wo k) := hd.2.1 (wo k) (hw k (by omega))
    show Rt (LB_X11_seenIsSo_13 (LF_X11_seenIsSo N) x1 x3 σ) _
    unfold LB_X11_seenIsSo_13
    refine Rt_f (i_nle (by omega)) ?_
    rw [n0, n1, n2, show (gi σ 10 (3 * k)).toNatClampNeg = wo k from by omega]
    by_cases c : wn k = t
    · refine Rt_t (i_eq (by omega)) ?_
      by_cases q : D_at D (wo k) = sa k
      · refine Rt_t (i_eq (by omega)) ?_
        refine Rt_fl (fun v e => ?_)
        refine Rt_w (ih (k + 1) N v (by omega) (by omega) (by rw [e, e3]; omega)) ?_
        intro r σ' ⟨z, p⟩
        refine ⟨z, ?_⟩
        rcases p with ⟨r1, p⟩ | ⟨r0, p⟩
        · exact Or.inl ⟨r1, fun i h1 h2 h3 => by
            by_cases y : i = k
            · rw [y]; exact q
            · exact p i (by omega) h2 h3⟩
        · exact Or.inr ⟨r0, fun z' => p (fun i h1 h2 h3 => z' i (by omega) h2 h3)⟩
      · refine Rt_f (i_ne (by omega)) ?_
        exact ⟨rfl, Or.inr ⟨rfl, fun z => q (z k (Nat.le_refl _) (by omega) c)⟩⟩
    · refine Rt_f (i_ne (by omega)) ?_
      refine Rt_fl (fun v e => ?_)
      refine Rt_w (ih (k + 1) N v (by omega) (by omega) (by rw [e, e3]; omega)) ?_
      intro r σ' ⟨z, p⟩
      refine ⟨z, ?_⟩
      rcases p with ⟨r1, p⟩ | ⟨r0, p⟩
      · exact Or.inl ⟨r1, fun i h1 h2 h3 => by
          by_cases y : i = k
          · rw [y] at h3; exact absurd h3 c
          · exact p i (by omega) h2 h3⟩
      · exact Or.inr ⟨r0, fun z' => p (fun i h1 h2 h3 => z' i (by omega) h2 h3)⟩
theorem asLC {n T : Nat} {S : Stc} {wo wn : Nat → Nat} {sa : Nat → Int} (sb : SBd n S) (hT : T ≤ 6) (hw : ∀ k, k < T → wo k < n) : ∀ (j t N : Nat) (x1 : Int32) (D : Dyn) (K : Int) (σ : Sg), j + t = 31 → j < N → x1.toInt = (t : Int) → K + (j : Int) ≤ 100000 → DBd n K D → CS 33 n S σ → CDy 33 n D σ → CSe T wo wn sa σ →
    Rt (LF_X11_allSeenIsSo N x1 σ) (fun r σ' => FXn 33 n σ σ' ∧ ((r = 1 ∧ ∀ i, i < j → ∀ k, k < T → wn k = t + i → D_at (aMins S i D) (wo k) = sa k) ∨ (r = 0 ∧ ¬ ∀ i, i < j → ∀ k, k < T → wn k = t + i → D_at (aMins S i D) (wo k) = sa k))) := by
  intro j
  induction j with
  | zero =>
    intro t N x1 D K σ hj hN h1 hK db cs cd ce
    obtain ⟨N, rfl⟩ : ∃ i, N = i + 1 := ⟨N - 1, by omega⟩
    show Rt (LB_X11_allSeenIsSo_2 (LF_X11_allSeenIsSo N) x1 σ) _
    unfold LB_X11_allSeenIsSo_2
    refine Rt_t (i_lt (show (30 : Int) < _ by omega)) ?_
    exact ⟨FX_rf, Or.inl ⟨rfl, fun i h => absurd h (Nat.not_lt_zero i)⟩⟩
  | succ j ih =>
    intro t N x1 D K σ hj hN h1 hK db cs cd ce
    obtain ⟨N, rfl⟩ : ∃ i, N = i + 1 := ⟨N - 1, by omega⟩
    show Rt (LB_X11_allSeenIsSo_2 (LF_X11_allSeenIsSo N) x1 σ) _
    unfold LB_X11_allSeenIsSo_2
    refine Rt_f (i_nlt (show _ ≤ (30 : Int) by omega)) ?_
    refine Rt_fb (x := F_X11_seenIsSo x1 σ) (seLC hT ce hw cd h1 T 0 90 (0 : Int32) (by omega) (by omega) rfl) (fun r3 σ2 ⟨z, p⟩ => ?_)
    subst z
    rcases p with ⟨r1, p⟩ | ⟨r0, p⟩
    · refine Rt_f (by rw [r1]; decide) ?_
      refine Rt_fb (minC (c0 := 33) (by decide) sb db (by omega) cs cd) (fun r6 σ5 ⟨_, d5, f5⟩ => ?_)
      refine Rt_fl (fun v e => ?_)
      refine Rt_w (ih (t + 1) N v (aMin S D).2 (K + 1) σ5 (by omega) (by omega) (by rw [e, i_inc (by omega)]; omega) (by omega) (aMin_b sb db) (CS_m (by decide) f5 cs) d5 (CSe_eq (fun id k a => FXn_i f5 (by omega)) ce)) ?_
      intro r σ' ⟨f, q⟩
      refine ⟨FXn_tr f5 f, ?_⟩
      rcases q with ⟨a, q⟩ | ⟨a, q⟩
      · refine Or.inl ⟨a, fun i hi k hk e => ?_⟩
        cases i with
        | zero => exact p k (Nat.zero_le _) hk e
        | succ i => exact q i (by omega) k hk (by omega)
      · exact Or.inr ⟨a, fun z => q (fun i hi k hk e => z (i + 1) (by omega) k hk (by omega))⟩
    · refine Rt_t r0 ?_
      exact ⟨FX_rf, Or.inr ⟨rfl, fun z => p (fun i _ hi e => z 0 (by omega) i hi e)⟩⟩
noncomputable def SQ (S : Stc) (T : Nat) (wo wn : Nat → Nat) (sa : Nat → Int) (D : Dyn) (m : Nat) : Prop := ∀ k, k < T → D_at (aMins S (wn k) (aStp m 3 D)) (wo k) = sa k
noncomputable def WhR (P : Nat → Prop) : Nat → Nat → Int32 → Int32 → Prop
  | 0, _, x, r => r = x
  | i + 1, k, x, r => (P k ∧ WhR P i (k + 1) (x ||| ((1 : Int32) <<< (nI k &&& 31))) r) ∨ (¬ P k ∧ WhR P i (k + 1) x r)
theorem WhR_un {P : Nat → Prop} : ∀ (i k : Nat) (x r r' : Int32), WhR P i k x r → WhR P i k x r' → r = r' := by
  intro i
  induction i with
  | zero => intro k x r r' a b; exact Eq.trans a (Eq.symm b)
  | succ i ih =>
    intro k x r r' a b
    rcases a with ⟨p, a⟩ | ⟨p, a⟩ <;> rcases b with ⟨p', b⟩ | ⟨p', b⟩
    · exact ih _ _ _ _ a b
    · exact absurd p p'
    · exact absurd p' p
    · exact ih _ _ _ _ a b
theorem whoLC {n T : Nat} {K : Int} {S : Stc} {D : Dyn} {wo wn : Nat → Nat} {sa : Nat → Int} (hT : T ≤ 6) (hw : ∀ k, k < T → wo k < n ∧ wn k ≤ 30) : ∀ (i k N : Nat) (x1 x2 : Int32) (σ : Sg), i + k = n → i < N → x2.toInt = (k : Int) → HCl n K S D σ → CSe T wo wn sa σ →
    Rt (LF_X11_who N x1 x2 σ) (fun r _ => WhR (SQ S T wo wn sa D) i k x1 r) := by
  intro i
  induction i with
  | zero =>
    intro k N x1 x2 σ hi hN h2 h ce
    have hn := h.2.2.2.2.2.1.1
    obtain ⟨N, rfl⟩ : ∃ i, N = i + 1 := ⟨N - 1, by omega⟩
    show Rt (LB_X11_who_4 (LF_X11_who N) x1 x2 σ) _
    unfold LB_X11_who_4
    refine Rt_t (i_le (by omega)) ?_
    exact (rfl : x1 = x1)
  | succ i ih =>
    intro k N x1 x2 σ hi hN h2 h ce
    have hn := h.2.2.2.2.2.1.1
    have n6 := h.1.1
    have hK := h.2.2.1
    obtain ⟨N, rfl⟩ : ∃ i, N = i + 1 := ⟨N - 1, by omega⟩
    have ex := cl_eq (x := x2) (by omega)
    have ep : x2.toNatClampNeg = k := by omega
    have e3 : x2 = nI k := by rw [← ep]; exact nI_ofI (by omega)
    show Rt (LB_X11_who_4 (LF_X11_who N) x1 x2 σ) _
    unfold LB_X11_who_4
    refine Rt_f (i_nle (by omega)) ?_
    rw [ep]
    refine Rt_fs (HCl_bec h) (fun σ2 ⟨s2, d2, f2⟩ => ?_)
    refine Rt_fl (fun σ5 e5 => ?_)
    have s5 : CS 33 n S σ5 := by rw [e5]; exact CS_39 s2
    have d5 : CDy 33 n (aStp k 3 D) σ5 := by rw [e5]; exact stpC h.2.1 (by omega) rfl (by decide) d2
    have db5 := aStp_b h.2.1 (h.2.2.2.2.1 k (by omega)) (show k < n by omega) (show (0 : Int) ≤ 3 ∧ (3 : Int) ≤ 20 by decide)
    have f5 : FXv σ2 σ5 := by rw [e5]; exact FX_si FX_rf (Or.inl (Or.inl (by decide)))
    have ce5 : CSe T wo wn sa σ5 := CSe_eq (fun id j a => by rw [FXv_i f5 (by omega), FXv_i f2 (by omega)]) ce
    refine Rt_fb (x := F_X11_allSeenIsSo σ5) (asLC h.1 hT (fun m hm => (hw m hm).1) 31 0 90 (0 : Int32) (aStp k 3 D) K σ5 (by decide) (by decide) rfl (by omega) db5 s5 d5 ce5) (fun r7 σ6 ⟨f6, p⟩ => ?_)
    have fa : FXv σ σ6 := FXv_tr f2 (FXv_tr f5 (FXn_v f6))
    have ce6 : CSe T wo wn sa σ6 := CSe_eq (fun id j a => FXv_i fa (by omega)) ce
    have v8 : (x2 + 1).toInt = ((k + 1 : Nat) : Int) := by rw [i_inc (by omega)]; omega
    rcases p with ⟨r1, p⟩ | ⟨r0, p⟩
    · refine Rt_f (by rw [r1]; decide) ?_
      refine Rt_fl (fun v10 e10 => Rt_fl (fun v11 e11 => ?_))
      refine Rt_w (ih (k + 1) N v10 v11 σ6 (by omega) (by omega) (by rw [e11]; exact v8) (HCl_v fa h) ce6) (fun r _ q => Or.inl ⟨fun m hm => p (wn m) (by have := hw m hm; omega) m hm (by omega), ?_⟩)
      rw [e10, e3] at q; exact q
    · refine Rt_t r0 ?_
      refine Rt_fl (fun v11 e11 => ?_)
      refine Rt_w (ih (k + 1) N x1 v11 σ6 (by omega) (by omega) (by rw [e11]; exact v8) (HCl_v fa h) ce6) (fun r _ q => Or.inr ⟨fun z => p (fun i' hi' m hm e => ?_), q⟩)
      have ei : i' = wn m := by omega
      rw [ei]; exact z m hm
theorem isSM {n T m k : Nat} {K : Int} {S : Stc} {D : Dyn} {wo wn : Nat → Nat} {sa : Nat → Int} {σ : Sg} {x1 x2 : Int32} (hw : ∀ k, k < T → wo k < n ∧ wn k ≤ 30) (h : HMo n K S D σ) (me : MSe T wo wn sa σ) (h1 : x1.toInt = (m : Int)) (hm : m < n) (h2 : x2.toInt = (k : Int)) (hk : k < T) :
    Rt (F_X12_isSeen x1 x2 σ) (fun r σ' => FXz σ σ' ∧ ((r = 1 ∧ D_at (aMins S (wn k) (aStp m 3 D)) (wo k) = sa k) ∨ (r = 0 ∧ ¬ D_at (aMins S (wn k) (aStp m 3 D)) (wo k) = sa k))) := by
  obtain ⟨sb, db, hK, hr, h99, hs, hd⟩ := h
  have n6 := sb.1
  have ex := cl_eq (x := x1) (by omega)
  have ey := cl_eq (x := x2) (by omega)
  obtain ⟨m0, m1, m2⟩ := me.2 k hk
  obtain ⟨w1, w2⟩ := hw k hk
  unfold F_X12_isSeen
  rw [show x1.toNatClampNeg = m from by omega, show x2.toNatClampNeg = k from by omega]
  refine Rt_fs (savM n6 hs hd) (fun σ1 ⟨k1, s1, d1, t1, z1⟩ => ?_)
  refine Rt_fl (fun σ4 e4 => ?_)
  have k4 : KP σ σ4 := by rw [e4]; exact KP_si (by omega) k1
  have s4 : MS n S σ4 := by rw [e4]; exact MS_si (by omega) s1
  have d4 : MDy n (aStp m 3 D) σ4 := by rw [e4]; exact stpM db hm rfl (by decide) d1
  have db4 := aStp_b db (h99 m hm) hm (show (0 : Int) ≤ 3 ∧ (3 : Int) ≤ 20 by decide)
  have g4 : ∀ id j, 142 ≤ id ∧ id ≤ 144 → gi σ4 id j = gi σ id j := fun id j a => by rw [e4, gi_si_ne (Or.inl (by omega)), FXz_i z1 (by omega)]
  refine Rt_fs (gosM9 (j := wn k) sb (by rw [g4 143 k (by decide)]; exact m1) (by omega) (by omega) db4 s4.2 d4) (fun σ6 ⟨d6, f6, _⟩ => ?_)
  have g6 : ∀ id j, 142 ≤ id ∧ id ≤ 144 → gi σ6 id j = gi σ id j := fun id j a => by rw [FXq_i f6 (by omega), g4 id j a]
  have cw := cl_eq (x := gi σ 142 k) (by omega)
  have ha : (gi σ6 105 (wo k)).toInt = D_at (aMins S (wn k) (aStp m 3 D)) (wo k) := d6.2.1 (wo k) w1
  rw [g6 142 k (by decide), g6 144 k (by decide), show (gi σ 142 k).toNatClampNeg = wo k from by omega]
  by_cases q : D_at (aMins S (wn k) (aStp m 3 D)) (wo k) = sa k
  · refine Rt_t (i_eq (by omega)) ?_
    exact Rt_fs (putM (KP_q n6 k4 f6)) (fun σ5 z5 => Rt_p ⟨z5, Or.inl ⟨rfl, q⟩⟩)
  · refine Rt_f (i_ne (by omega)) ?_
    exact Rt_fs (putM (KP_q n6 k4 f6)) (fun σ5 z5 => Rt_p ⟨z5, Or.inr ⟨rfl, q⟩⟩)
theorem whoIn {n T m M0 : Nat} {K : Int} {S : Stc} {D : Dyn} {wo wn : Nat → Nat} {sa : Nat → Int} {σ0 : Sg} {x1 x2 : Int32} {Q : Int32 → Sg → Prop} (hw : ∀ k, k < T → wo k < n ∧ wn k ≤ 30) (hT : T ≤ 6) (h0 : HMo n K S D σ0) (me0 : MSe T wo wn sa σ0) (h2 : x2.toInt = (m : Int)) (hm : m < n)
    (ct : ∀ (N : Nat) (σ : Sg) (x3 : Int32), M0 ≤ N → FXz σ0 σ → ((x3 = 1 ∧ SQ S T wo wn sa D m) ∨ (x3 = 0 ∧ ¬ SQ S T wo wn sa D m)) → Rt (LF_X12_who N 2 x1 x2 x3 0 σ) Q) : ∀ (j k N : Nat) (x3 x4 : Int32) (σ : Sg), j + k = T → j + 1 + M0 ≤ N → x4.toInt = (k : Int) → FXz σ0 σ →
    ((x3 = 1 ∧ ∀ i, i < k → D_at (aMins S (wn i) (aStp m 3 D)) (wo i) = sa i) ∨ (x3 = 0 ∧ ¬ SQ S T wo wn sa D m)) → Rt (LF_X12_who N 1 x1 x2 x3 x4 σ) Q := by
  intro j
  induction j with
  | zero =>
    intro k N x3 x4 σ hj hN h4 z p
    have me : MSe T wo wn sa σ := MSe_eq (fun id j a => FXz_i z (by omega)) me0
    have h41 := me.1
    obtain ⟨N, rfl⟩ : ∃ i, N = i + 1 := ⟨N - 1, by omega⟩
    show Rt (LB_X12_who_17 (LF_X12_who N) x1 x2 x3 x4 σ) _
    unfold LB_X12_who_17
    refine Rt_t (i_le (by omega)) ?_
    refine ct N σ x3 (by omega) z ?_
    rcases p with ⟨a, p⟩ | p
    · exact Or.inl ⟨a, fun i hi => p i (by omega)⟩
    · exact Or.inr p
  | succ j ih =>
    intro k N x3 x4 σ hj hN h4 z p
    have me : MSe T wo wn sa σ := MSe_eq (fun id j a => FXz_i z (by omega)) me0
    have h41 := me.1
    obtain ⟨N, rfl⟩ : ∃ i, N = i + 1 := ⟨N - 1, by omega⟩
    show Rt (LB_X12_who_17 (LF_X12_who N) x1 x2 x3 x4 σ) _
    unfold LB_X12_who_17
    refine Rt_f (i_nle (by omega)) ?_
    rcases p with ⟨a, p⟩ | ⟨a, p⟩
    · refine Rt_f (by rw [a]; decide) ?_
      refine Rt_fb (isSM hw (HMo_z z h0) me h2 hm h4 (by omega)) (fun r4 σ3 ⟨z3, q⟩ => ?_)
      refine Rt_fl (fun v5 e5 => ?_)
      refine ih (k + 1) N r4 v5 σ3 (by omega) (by omega) (by rw [e5, i_inc (by omega)]; omega) (FXz_tr z z3) ?_
      rcases q with ⟨b, q⟩ | ⟨b, q⟩
      · refine Or.inl ⟨b, fun i hi => ?_⟩
        by_cases y : i = k
        · rw [y]; exact q
        · exact p i (by omega)
      · exact Or.inr ⟨b, fun w => q (w k (by omega))⟩
    · refine Rt_t a ?_
      exact ct N σ x3 (by omega) z (Or.inr ⟨a, p⟩)
theorem whoLM {n T : Nat} {K : Int} {S : Stc} {D : Dyn} {wo wn : Nat → Nat} {sa : Nat → Int} {σ0 : Sg} (hw : ∀ k, k < T → wo k < n ∧ wn k ≤ 30) (hT : T ≤ 6) (h0 : HMo n K S D σ0) (me0 : MSe T wo wn sa σ0) : ∀ (i k N : Nat) (x1 x2 : Int32) (σ : Sg), i + k = n → 20 * i + 2 ≤ N → x2.toInt = (k : Int) → FXz σ0 σ →
    Rt (LF_X12_who N 0 x1 x2 0 0 σ) (fun r σ' => WhR (SQ S T wo wn sa D) i k x1 r ∧ FXz σ0 σ') := by
  intro i
  induction i with
  | zero =>
    intro k N x1 x2 σ hi hN h2 z
    have hn := (HMo_z z h0).2.2.2.2.2.1.1
    obtain ⟨N, rfl⟩ : ∃ i, N = i + 1 := ⟨N - 1, by omega⟩
    show Rt (LB_X12_who_4 (LF_X12_who N) x1 x2 σ) _
    unfold LB_X12_who_4
    refine Rt_t (i_le (by omega)) ?_
    exact Rt_p ⟨(rfl : x1 = x1), z⟩
  | succ i ih =>
    intro k N x1 x2 σ hi hN h2 z
    have n6 := h0.1.1
    have hn := (HMo_z z h0).2.2.2.2.2.1.1
    obtain ⟨N, rfl⟩ : ∃ i, N = i + 1 := ⟨N - 1, by omega⟩
    have ex := cl_eq (x := x2) (by omega)
    have ep : x2.toNatClampNeg = k := by omega
    have e3 : x2 = nI k := by rw [← ep]; exact nI_ofI (by omega)
    show Rt (LB_X12_who_4 (LF_X12_who N) x1 x2 σ) _
    unfold LB_X12_who_4
    refine Rt_f (i_nle (by omega)) ?_
    refine whoIn (M0 := 20 * i + 4) hw hT h0 me0 h2 (by omega) (fun N' σ' x3 hN' z' p => ?_) T 0 N (1 : Int32) (0 : Int32) σ rfl (by omega) rfl z (Or.inl ⟨rfl, fun i h => absurd h (Nat.not_lt_zero i)⟩)
    obtain ⟨N', rfl⟩ : ∃ i, N' = i + 1 := ⟨N' - 1, by omega⟩
    show Rt (LB_X12_who_44 (LF_X12_who N') x1 x2 x3 σ') _
    unfold LB_X12_who_44
    rcases p with ⟨a, p⟩ | ⟨a, p⟩
    · refine Rt_f (by rw [a]; decide) ?_
      refine Rt_fl (fun v4 e4 => Rt_fl (fun v5 e5 => ?_))
      refine Rt_w (ih (k + 1) N' v4 v5 σ' (by omega) (by omega) (by rw [e5, i_inc (by omega)]; omega) z') (fun r σ'' q => ⟨Or.inl ⟨p, ?_⟩, q.2⟩)
      have q1 := q.1
      rw [e4, e3] at q1; exact q1
    · refine Rt_t a ?_
      refine Rt_fl (fun v4 e4 => Rt_fl (fun v5 e5 => ?_))
      refine Rt_w (ih (k + 1) N' v4 v5 σ' (by omega) (by omega) (by rw [e5, i_inc (by omega)]; omega) z') (fun r σ'' q => ⟨Or.inr ⟨p, ?_⟩, q.2⟩)
      have q1 := q.1
      rw [e4, or0] at q1; exact q1
theorem A_who {V : Vx} {r1 r2 : Int32} {σ σ1 σ2 : Sg} (q : RELM σ) (s : SNP σ) (hI : INV V σ) (f : MA σ σ1) (h1 : F_X11_who σ = (r1, σ1)) (h2 : F_X12_who σ1 = (r2, σ2)) : r1 = r2 := by
  obtain ⟨n, S, D, c, m, si⟩ := HXC q hI f
  obtain ⟨⟨-, -, -, -, -, -, -, -, -, c41, -⟩, -⟩ := q.1.1
  have b41 := MI_f41 hI.2.1
  have hn := c.2.2.2.2.2.1.1
  obtain ⟨T, ht⟩ : ∃ t : Nat, (gi σ 74 41).toInt = (t : Int) := ⟨(gi σ 74 41).toInt.toNat, by omega⟩
  have h9 : (gi σ 9 1).toInt = 3 * (T : Int) := by omega
  have sk : ∀ k, k < T → (gi σ 10 (3 * k) = gi σ 142 k ∧ gi σ 10 (3 * k + 1) = gi σ 143 k ∧ gi σ 10 (3 * k + 2) = gi σ 144 k) ∧ (0 ≤ (gi σ 142 k).toInt ∧ (gi σ 142 k).toInt < (gi σ 1 1).toInt) ∧ (0 ≤ (gi σ 143 k).toInt ∧ (gi σ 143 k).toInt ≤ 30) := fun k hk => s.1 k (by show 3 * (k : Int) < (gi σ 9 1).toInt; omega)
  have hw : ∀ k, k < T → (gi σ 142 k).toInt.toNat < n ∧ (gi σ 143 k).toInt.toNat ≤ 30 := fun k hk => by have z := sk k hk; omega
  have ce : CSe T (fun k => (gi σ 142 k).toInt.toNat) (fun k => (gi σ 143 k).toInt.toNat) (fun k => (gi σ 144 k).toInt) σ := ⟨h9, fun k hk => by
    obtain ⟨⟨a, b, d⟩, e, g⟩ := sk k hk
    rw [a, b, d]
    exact ⟨by dsimp only; omega, by dsimp only; omega, rfl⟩⟩
  have me : MSe T (fun k => (gi σ 142 k).toInt.toNat) (fun k => (gi σ 143 k).toInt.toNat) (fun k => (gi σ 144 k).toInt) σ1 := ⟨by rw [f 74 (by decide) (by decide) 41]; exact ht, fun k hk => by
    obtain ⟨-, e, g⟩ := sk k hk
    rw [f 142 (by decide) (by decide), f 143 (by decide) (by decide), f 144 (by decide) (by decide)]
    exact ⟨by dsimp only; omega, by dsimp only; omega, rfl⟩⟩
  have n6 := c.1.1
  have A := Rt_of (x := F_X11_who σ) (whoLC (by omega) hw n 0 9 (0 : Int32) (0 : Int32) σ rfl (by omega) rfl c ce) h1
  have B := Rt_of (x := F_X12_who σ1) (whoLM hw (by omega) m me n 0 2000 (0 : Int32) (0 : Int32) σ1 rfl (by omega) rfl FXz_rf) h2
  exact WhR_un n 0 0 r1 r2 A B.1
