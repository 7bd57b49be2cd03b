/-! order: what the class answers -/
noncomputable def sOr (f : Nat → Nat) (S : Stc) : Stc := (S.1, f, S.2.2)
noncomputable def dAt (z : Nat → Int) (D : Dyn) : Dyn := (D_m D, z, D_ed D, D_ti D, D_st D)
theorem SBd_or {n : Nat} {S : Stc} {f : Nat → Nat} (h : SBd n S) (hf : ∀ p, p < n → f p < n) : SBd n (sOr f S) := ⟨h.1, h.2.1, fun p hp => hf p (by have hp : p < S_r S := hp; have := h.2.1; omega), h.2.2.2⟩
theorem DBd_at {n : Nat} {K : Int} {D : Dyn} {z : Nat → Int} (d : DBd n K D) (hz : ∀ m, m < n → 0 ≤ z m ∧ z m ≤ 9999) : DBd n K (dAt z D) := ⟨d.1, fun m hm => ⟨hz m hm, (d.2 m hm).2⟩⟩
theorem CS_or {n k x : Nat} {S : Stc} {g : Nat → Nat} {σ : Sg} {v : Int32} (hv : v.toInt = (x : Int)) (h : CS 33 n (sOr g S) σ) : CS 33 n (sOr (fun p => if p = k then x else g p) S) (si σ 35 k v) := by
  obtain ⟨h1, h2, h3, h4, h5, ⟨f, h6, h7, h8⟩, h9, h10⟩ := h
  have e : ∀ id j, ¬ id = 35 → gi (si σ 35 k v) id j = gi σ id j := fun id j a => gi_si_ne (Or.inl a)
  refine ⟨by rw [e 33 1 (by decide)]; exact h1, by rw [e 33 3 (by decide)]; exact h2, fun p hp => ?_, fun m hm => ?_, fun j hj => by rw [e (33 + 7) j (by decide)]; exact h5 j hj, ⟨f, h6, h7, FdA_eq (fun id j a b => e id j (by omega)) h8⟩, h9, by rw [e 33 11 (by decide)]; exact h10⟩
  · show (gi (si σ 35 k v) 35 p).toInt = ((if p = k then x else g p : Nat) : Int)
    rw [gi_si]
    by_cases q : p = k
    · rw [if_pos ⟨rfl, q⟩, if_pos q]; exact hv
    · rw [if_neg (fun z => q z.2), if_neg q]; exact h3 p hp
  · obtain ⟨μ, κ, a1, a2, a3, a4, a5, a6, a7, a8⟩ := h4 m hm
    exact ⟨μ, κ, a1, a2, a3, a4, a5, by rw [e μ 0 (by omega)]; exact a6, by rw [e μ 1 (by omega)]; exact a7, by rw [e μ 2 (by omega)]; exact a8⟩
theorem CS_ln {c n : Nat} {S : Stc} {f g : Nat → Nat} {σ : Sg} (hr : S_r S = n) (e : ∀ p, p < n → g p = f p) (h : CS c n (sOr g S) σ) : CS c n (sOr f S) σ := by
  refine ⟨h.1, h.2.1, fun p hp => ?_, h.2.2.2⟩
  have hp : p < S_r S := hp
  have z := h.2.2.1 p hp
  rw [z]
  show ((g p : Nat) : Int) = (f p : Int)
  rw [e p (by omega)]
theorem CS_self {c n : Nat} {S : Stc} {σ : Sg} (h : CS c n S σ) : CS c n (sOr (S_ln S) S) σ := h
theorem CDy_self {c n : Nat} {D : Dyn} {σ : Sg} (h : CDy c n D σ) : CDy c n (dAt (D_at D) D) σ := h
theorem CDy_at {n k : Nat} {D : Dyn} {z : Nat → Int} {σ : Sg} {v : Int32} {x : Int} (hv : v.toInt = x) (h : CDy 33 n (dAt z D) σ) : CDy 33 n (dAt (fun m => if m = k then x else z m) D) (si σ 36 k v) := by
  have e : ∀ id j, ¬ id = 36 → gi (si σ 36 k v) id j = gi σ id j := fun id j a => gi_si_ne (Or.inl a)
  refine ⟨by rw [e 33 9 (by decide)]; exact h.1, fun m hm => ?_, fun m hm => by rw [e (33 + 4) m (by decide)]; exact h.2.2.1 m hm, fun m hm => by rw [e (33 + 5) m (by decide)]; exact h.2.2.2.1 m hm, fun m hm => by rw [e (33 + 6) m (by decide)]; exact h.2.2.2.2 m hm⟩
  show (gi (si σ 36 k v) 36 m).toInt = if m = k then x else z m
  rw [gi_si]
  by_cases q : m = k
  · rw [if_pos ⟨rfl, q⟩, if_pos q]; exact hv
  · rw [if_neg (fun z => q z.2), if_neg q]; exact h.2.1 m hm
theorem CDy_ln {c n : Nat} {D : Dyn} {z z' : Nat → Int} {σ : Sg} (e : ∀ m, m < n → z m = z' m) (h : CDy c n (dAt z D) σ) : CDy c n (dAt z' D) σ :=
  ⟨h.1, fun m hm => (h.2.1 m hm).trans (e m hm), h.2.2⟩
noncomputable def FXo (σ σ' : Sg) : Prop := FXv σ σ' ∧ (∀ k, gi σ' 66 k = gi σ 66 k) ∧ ∀ k, gi σ' 67 k = gi σ 67 k
theorem FXo_rf {σ : Sg} : FXo σ σ := ⟨FXv_rf, fun _ => rfl, fun _ => rfl⟩
theorem FXo_tr {σ σ1 σ2 : Sg} (f : FXo σ σ1) (g : FXo σ1 σ2) : FXo σ σ2 := ⟨FXv_tr f.1 g.1, fun k => (g.2.1 k).trans (f.2.1 k), fun k => (g.2.2 k).trans (f.2.2 k)⟩
theorem FXn_o {n : Nat} {σ σ1 : Sg} (f : FXn 33 n σ σ1) : FXo σ σ1 := ⟨FXn_v f, fun k => FXn_i f (by omega), fun k => FXn_i f (by omega)⟩
theorem ti1 {n j : Nat} {S : Stc} {x1 : Int32} (sb : SBd n S) (h1 : x1.toInt = (j : Int)) (hj : j ≤ 60) : ∀ (i k N : Nat) (x2 : Int32) (D : Dyn) (K : Int) (σ : Sg), i + k = j → i < N → x2.toInt = (k : Int) → K + (i : Int) ≤ 100000 → DBd n K D → CS 33 n S σ → CDy 33 n D σ →
    Rt (LF_X11_totalInOrder N 1 x1 x2 σ) (fun r σ' => r.toInt = tot n (aMins S i D) ∧ FXo σ σ') := by
  have n6 := sb.1
  intro i
  induction i with
  | zero =>
    intro k N x2 D K σ hi hN h2 hK db cs cd
    obtain ⟨N, rfl⟩ : ∃ i, N = i + 1 := ⟨N - 1, by omega⟩
    show Rt (LB_X11_totalInOrder_62 (LF_X11_totalInOrder N) x1 x2 σ) _
    unfold LB_X11_totalInOrder_62
    refine Rt_t (i_le (by omega)) ?_
    obtain ⟨r, e, v⟩ := allC (c0 := 33) n6 cs.1 db cd
    refine Rt_fe e ?_
    exact Rt_p ⟨v, FXo_rf⟩
  | succ i ih =>
    intro k N x2 D K σ hi hN h2 hK db cs cd
    obtain ⟨N, rfl⟩ : ∃ i, N = i + 1 := ⟨N - 1, by omega⟩
    show Rt (LB_X11_totalInOrder_62 (LF_X11_totalInOrder N) x1 x2 σ) _
    unfold LB_X11_totalInOrder_62
    refine Rt_f (i_nle (by omega)) ?_
    refine Rt_fb (minC (c0 := 33) (by decide) sb db (by omega) cs cd) (fun r5 σ4 ⟨_, d4, f4⟩ => ?_)
    refine Rt_fl (fun v6 e6 => ?_)
    exact Rt_w (ih (k + 1) N v6 (aMin S D).2 (K + 1) σ4 (by omega) (by omega) (by rw [e6, i_inc (by omega)]; omega) (by omega) (aMin_b sb db) (CS_m (by decide) f4 cs) d4) (fun r σ' q => ⟨q.1, FXo_tr (FXn_o f4) q.2⟩)
theorem ti0 {n M0 : Nat} {S : Stc} {D : Dyn} {f : Nat → Nat} {x1 : Int32} {σ0 : Sg} {Q : Int32 → Sg → Prop} (n5 : n ≤ 5) (t : T66 n f σ0)
    (ct : ∀ (N : Nat) (σ : Sg) (g : Nat → Nat) (z : Nat → Int), M0 ≤ N → (∀ p, p < n → g p = f p) → (∀ m, m < n → z m = 0) → CS 33 n (sOr g S) σ → CDy 33 n (dAt z D) σ → FXo σ0 σ → Rt (LF_X11_totalInOrder N 1 x1 (0 : Int32) σ) Q) : ∀ (i k N : Nat) (x2 : Int32) (g : Nat → Nat) (z : Nat → Int) (σ : Sg), i + k = n → i + 1 + M0 ≤ N → x2.toInt = (k : Int) → (∀ p, p < k → g p = f p) → (∀ m, m < k → z m = 0) → CS 33 n (sOr g S) σ → CDy 33 n (dAt z D) σ → FXo σ0 σ →
    Rt (LF_X11_totalInOrder N 0 x1 x2 σ) Q := by
  intro i
  induction i with
  | zero =>
    intro k N x2 g z σ hi hN h2 hg hz cs cd fo
    obtain ⟨N, rfl⟩ : ∃ i, N = i + 1 := ⟨N - 1, by omega⟩
    have hn := cs.1
    show Rt (LB_X11_totalInOrder_13 (LF_X11_totalInOrder N) x1 x2 σ) _
    unfold LB_X11_totalInOrder_13
    refine Rt_t (i_le (by omega)) ?_
    exact ct N σ g z (by omega) (fun p hp => hg p (by omega)) (fun m hm => hz m (by omega)) cs cd fo
  | succ i ih =>
    intro k N x2 g z σ hi hN h2 hg hz cs cd fo
    obtain ⟨N, rfl⟩ : ∃ i, N = i + 1 := ⟨N - 1, by omega⟩
    have hn := cs.1
    have ex := cl_eq (x := x2) (by omega)
    have tk : (gi σ 66 k).toInt = (f k : Int) := by rw [fo.2.1]; exact t k (by omega)
    show Rt (LB_X11_totalInOrder_13 (LF_X11_totalInOrder N) x1 x2 σ) _
    unfold LB_X11_totalInOrder_13
    refine Rt_f (i_nle (by omega)) ?_
    refine Rt_f (i_nle (show _ < (5 : Int) by omega)) ?_
    rw [show x2.toNatClampNeg = k from by omega]
    refine Rt_fl (fun σ5 e5 => Rt_fl (fun σ7 e7 => Rt_fl (fun v8 e8 => ?_)))
    have cs5 := CS_or (k := k) tk cs
    have cd5 : CDy 33 n (dAt z D) (si σ 35 k (gi σ 66 k)) := CDy_eq (fun id j a => gi_si_ne (Or.inl (by omega))) cd
    rw [← e5] at cs5 cd5
    have cs7 : CS 33 n (sOr (fun p => if p = k then f k else g p) S) σ7 := by rw [e7]; exact CS_eq (fun id j a => gi_si_ne (Or.inl (by unfold RcC at a; omega))) (fun k => rfl) rfl cs5
    have cd7 : CDy 33 n (dAt (fun m => if m = k then 0 else z m) D) σ7 := by rw [e7]; exact CDy_at (rfl : (0 : Int32).toInt = 0) cd5
    have fo7 : FXo σ σ7 := ⟨by rw [e7, e5]; exact FX_si (FX_si FX_rf (Or.inl (Or.inl (by decide)))) (Or.inl (Or.inl (by decide))), fun q => by rw [e7, gi_si_ne (Or.inl (by decide)), e5, gi_si_ne (Or.inl (by decide))], fun q => by rw [e7, gi_si_ne (Or.inl (by decide)), e5, gi_si_ne (Or.inl (by decide))]⟩
    refine ih (k + 1) N v8 _ _ σ7 (by omega) (by omega) (by rw [e8, i_inc (by omega)]; omega) (fun p hp => ?_) (fun m hm => ?_) cs7 cd7 (FXo_tr fo fo7)
    · show (if p = k then f k else g p) = f p
      by_cases q : p = k
      · rw [if_pos q, q]
      · rw [if_neg q]; exact hg p (by omega)
    · show (if m = k then 0 else z m) = 0
      by_cases q : m = k
      · rw [if_pos q]
      · rw [if_neg q]; exact hz m (by omega)
noncomputable def oTt (n : Nat) (S : Stc) (D : Dyn) (j q : Nat) : Int := tot n (aMins (sOr (oF n q) S) j (dAt (fun _ => 0) D))
theorem tioC {n j : Nat} {K : Int} {S : Stc} {D : Dyn} {f : Nat → Nat} {σ : Sg} {x1 : Int32} (h : HCl n K S D σ) (n5 : n ≤ 5) (h1 : x1.toInt = (j : Int)) (hj : j ≤ 60) (t : T66 n f σ) (hf : ∀ p, p < n → f p < n) :
    Rt (F_X11_totalInOrder x1 σ) (fun r σ' => r.toInt = tot n (aMins (sOr f S) j (dAt (fun _ => 0) D)) ∧ FXo σ σ') := by
  have hK := h.2.2.1
  have hr := h.2.2.2.1
  unfold F_X11_totalInOrder
  refine Rt_fs (Ru_and (HCl_bec h) becF) (fun σ1 ⟨⟨s1, d1, f1⟩, b1⟩ => ?_)
  have fo : FXo σ σ1 := ⟨f1, fun k => b1 66 k (by omega), fun k => b1 67 k (by omega)⟩
  refine ti0 (M0 := 100) n5 t (fun N σ' g z hN hg hz cs cd fo' => ?_) n 0 300 (0 : Int32) (S_ln S) (D_at D) σ1 rfl (by omega) rfl (fun p hp => absurd hp (Nat.not_lt_zero p)) (fun p hp => absurd hp (Nat.not_lt_zero p)) s1 d1 fo
  exact Rt_w (ti1 (SBd_or h.1 hf) h1 hj j 0 N (0 : Int32) (dAt (fun _ => 0) D) K σ' rfl (by omega) rfl (by omega) (DBd_at h.2.1 (fun m _ => ⟨Int.le_refl _, by decide⟩)) (CS_ln hr hg cs) (CDy_ln hz cd)) (fun r σ'' q => ⟨q.1, FXo_tr fo' q.2⟩)
