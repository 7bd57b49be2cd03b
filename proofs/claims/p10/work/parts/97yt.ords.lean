/-! orders of a row: by number, and the next one -/
noncomputable def oFac : Nat → Nat
  | 0 => 1
  | k + 1 => (k + 1) * oFac k
noncomputable def oLay : Nat → Nat → Nat → List Nat → List Nat
  | 0, _, _, _ => []
  | j + 1, w, r, l => l.getD (r / (w / (j + 1))) 0 :: oLay j (w / (j + 1)) (r % (w / (j + 1))) (l.erase (l.getD (r / (w / (j + 1))) 0))
noncomputable def oL (n q : Nat) : List Nat := oLay n (oFac n) q (List.range n)
noncomputable def oF (n q : Nat) : Nat → Nat := fun k => (oL n q).getD k 0
noncomputable def oRis (f : Nat → Nat) : Nat → Nat
  | 0 => 0
  | r + 1 => if f r ≤ f (r + 1) then r + 1 else oRis f r
noncomputable def oAbv (f : Nat → Nat) (r : Nat) : Nat → Nat
  | 0 => 0
  | a + 1 => if a + 1 ≤ r then a + 1 else if f r ≤ f (a + 1) then a + 1 else oAbv f r a
noncomputable def oSwp (f : Nat → Nat) (i j : Nat) : Nat → Nat := fun k => if k = j then f i else if k = i then f j else f k
noncomputable def oRev : Nat → Nat → Nat → (Nat → Nat) → Nat → Nat
  | 0, _, _, f => f
  | e + 1, i, j, f => if j ≤ i then f else oRev e (i + 1) (j - 1) (oSwp f i j)
noncomputable def oNx (n : Nat) (f : Nat → Nat) : Nat → Nat := oRev 3 (oRis f (n - 1)) (n - 1) (oSwp f (oRis f (n - 1) - 1) (oAbv f (oRis f (n - 1) - 1) (n - 1)))
noncomputable def oChk (n q : Nat) : Bool := if oRis (oF n q) (n - 1) = 0 then decide (oFac n ≤ q + 1) else decide (q + 1 < oFac n) && (List.range n).all (fun k => oNx n (oF n q) k == oF n (q + 1) k)
theorem oAll : ∀ n, n < 6 → ∀ q, q < 120 → q < oFac n → oChk n q = true := by decide +kernel
theorem oVal : ∀ n, n < 6 → ∀ q, q < 120 → q < oFac n → ∀ k, k < n → oF n q k < n := by decide +kernel
theorem oFst : ∀ n, n < 6 → ∀ k, k < n → oF n 0 k = k := by decide +kernel
theorem oFac_b : ∀ n, n < 6 → 1 ≤ oFac n ∧ oFac n ≤ 120 := by decide +kernel
theorem oN0 {n q : Nat} (hn : n < 6) (hq : q < oFac n) (h : oRis (oF n q) (n - 1) = 0) : q + 1 = oFac n := by
  have c := oAll n hn q (by have := oFac_b n hn; omega) hq
  unfold oChk at c
  rw [if_pos h] at c
  have := of_decide_eq_true c; omega
theorem oN1 {n q : Nat} (hn : n < 6) (hq : q < oFac n) (h : ¬ oRis (oF n q) (n - 1) = 0) : q + 1 < oFac n ∧ ∀ k, k < n → oNx n (oF n q) k = oF n (q + 1) k := by
  have c := oAll n hn q (by have := oFac_b n hn; omega) hq
  unfold oChk at c
  rw [if_neg h, Bool.and_eq_true] at c
  refine ⟨of_decide_eq_true c.1, fun k hk => ?_⟩
  have d := List.all_eq_true.mp c.2 k (List.mem_range.mpr hk)
  exact eq_of_beq d
noncomputable def T66 (n : Nat) (f : Nat → Nat) (σ : Sg) : Prop := ∀ k, k < n → (gi σ 66 k).toInt = (f k : Int)
theorem T66_e {n : Nat} {f : Nat → Nat} {σ σ' : Sg} (e : ∀ k, gi σ' 66 k = gi σ 66 k) (h : T66 n f σ) : T66 n f σ' := fun k hk => by rw [e]; exact h k hk
theorem swpC {n i j : Nat} {f : Nat → Nat} {a1 a2 : Int32} {σ : Sg} (h1 : a1.toInt = (i : Int)) (h2 : a2.toInt = (j : Int)) (hi : i < n) (hj : j < n) (t : T66 n f σ) : Ru (F_X11_swapsTried a1 a2 σ) (fun σ' => T66 n (oSwp f i j) σ' ∧ FXv σ σ' ∧ ∀ k, gi σ' 67 k = gi σ 67 k) := by
  have e1 := cl_eq (x := a1) (by omega)
  have e2 := cl_eq (x := a2) (by omega)
  unfold F_X11_swapsTried
  rw [show a1.toNatClampNeg = i from by omega, show a2.toNatClampNeg = j from by omega]
  refine Ru_fl (fun v2 q2 => Ru_fl (fun σ5 q5 => Ru_fl (fun σ7 q7 => Ru_p ⟨fun k hk => ?_, ?_, fun k => ?_⟩)))
  · unfold oSwp
    rw [q7, gi_si]
    by_cases c : k = j
    · rw [if_pos ⟨rfl, c⟩, if_pos c, q2]; exact t i hi
    · rw [if_neg (fun z => c z.2), if_neg c, q5, gi_si]
      by_cases d : k = i
      · rw [if_pos ⟨rfl, d⟩, if_pos d]; exact t j hj
      · rw [if_neg (fun z => d z.2), if_neg d]; exact t k hk
  · rw [q7, q5]; exact FX_si (FX_si FX_rf (Or.inl (Or.inr (by decide)))) (Or.inl (Or.inr (by decide)))
  · rw [q7, gi_si_ne (Or.inl (by decide)), q5, gi_si_ne (Or.inl (by decide))]
theorem i_dec {x : Int32} (h : -2147483647 ≤ x.toInt) : (x - (1 : Int32)).toInt = x.toInt - 1 := by
  have := Int32.toInt_lt x
  exact i_sb (rfl : (1 : Int32).toInt = 1) (by omega) (by omega)
theorem tn3 {n : Nat} : ∀ (e i j N : Nat) (f : Nat → Nat) (x4 x5 : Int32) (σ : Sg), j ≤ i + 2 * e → e < N → x4.toInt = (i : Int) → x5.toInt = (j : Int) → j < n → n ≤ 5 → T66 n f σ →
    Rt (LF_X11_triesNextOrder N 3 0 0 0 x4 x5 σ) (fun r σ' => r = 1 ∧ T66 n (oRev e i j f) σ' ∧ FXv σ σ' ∧ ∀ k, gi σ' 67 k = gi σ 67 k) := by
  intro e
  induction e with
  | zero =>
    intro i j N f x4 x5 σ hij hN h4 h5 hj n5 t
    obtain ⟨N, rfl⟩ : ∃ i, N = i + 1 := ⟨N - 1, by omega⟩
    show Rt (LB_X11_triesNextOrder_83 (LF_X11_triesNextOrder N) x4 x5 σ) _
    unfold LB_X11_triesNextOrder_83
    exact Rt_t (i_le (by omega)) (Rt_p ⟨rfl, t, FXv_rf, fun _ => rfl⟩)
  | succ e ih =>
    intro i j N f x4 x5 σ hij hN h4 h5 hj n5 t
    obtain ⟨N, rfl⟩ : ∃ i, N = i + 1 := ⟨N - 1, by omega⟩
    show Rt (LB_X11_triesNextOrder_83 (LF_X11_triesNextOrder N) x4 x5 σ) (fun r σ' => r = 1 ∧ T66 n (if j ≤ i then f else oRev e (i + 1) (j - 1) (oSwp f i j)) σ' ∧ FXv σ σ' ∧ ∀ k, gi σ' 67 k = gi σ 67 k)
    unfold LB_X11_triesNextOrder_83
    by_cases c : j ≤ i
    · rw [if_pos c]
      exact Rt_t (i_le (by omega)) (Rt_p ⟨rfl, t, FXv_rf, fun _ => rfl⟩)
    · rw [if_neg c]
      refine Rt_f (i_nle (by omega)) ?_
      refine Rt_fs (swpC h4 h5 (by omega) hj t) (fun σ2 ⟨t2, f2, k2⟩ => ?_)
      refine Rt_fl (fun v3 e3 => Rt_fl (fun v4 e4 => ?_))
      exact Rt_w (ih (i + 1) (j - 1) N _ v3 v4 σ2 (by omega) (by omega) (by rw [e3, i_inc (by omega)]; omega) (by rw [e4, i_dec (by omega)]; omega) (by omega) n5 t2) (fun r σ' q => ⟨q.1, q.2.1, FXv_tr f2 q.2.2.1, fun k => (q.2.2.2 k).trans (k2 k)⟩)
theorem tn1 {n r M0 : Nat} {f : Nat → Nat} {x1 x2 : Int32} {σ : Sg} {Q : Int32 → Sg → Prop} (h2 : x2.toInt = (r : Int)) (hr : r < n) (n5 : n ≤ 5) (t : T66 n f σ)
    (ct : ∀ (N : Nat) (x3 : Int32), M0 ≤ N → x3.toInt = (oAbv f r (n - 1) : Int) → Rt (LF_X11_triesNextOrder N 2 x1 x2 x3 0 0 σ) Q) : ∀ (a N : Nat) (x3 : Int32), oAbv f r (n - 1) = oAbv f r a → a + 1 + M0 ≤ N → x3.toInt = (a : Int) → a < n → Rt (LF_X11_triesNextOrder N 1 x1 x2 x3 0 0 σ) Q := by
  have ex2 := cl_eq (x := x2) (by omega)
  intro a
  induction a with
  | zero =>
    intro N x3 h hN h3 ha
    obtain ⟨N, rfl⟩ : ∃ i, N = i + 1 := ⟨N - 1, by omega⟩
    show Rt (LB_X11_triesNextOrder_41 (LF_X11_triesNextOrder N) x1 x2 x3 σ) _
    unfold LB_X11_triesNextOrder_41
    refine Rt_t (i_le (by omega)) ?_
    exact ct N x3 (by omega) (by rw [h]; exact h3)
  | succ a ih =>
    intro N x3 h hN h3 ha
    obtain ⟨N, rfl⟩ : ∃ i, N = i + 1 := ⟨N - 1, by omega⟩
    have ex3 := cl_eq (x := x3) (by omega)
    have g2 := t r hr
    have g3 := t (a + 1) ha
    have h' : oAbv f r (n - 1) = if a + 1 ≤ r then a + 1 else if f r ≤ f (a + 1) then a + 1 else oAbv f r a := h
    show Rt (LB_X11_triesNextOrder_41 (LF_X11_triesNextOrder N) x1 x2 x3 σ) _
    unfold LB_X11_triesNextOrder_41
    rw [show x2.toNatClampNeg = r from by omega, show x3.toNatClampNeg = a + 1 from by omega]
    by_cases c : a + 1 ≤ r
    · rw [if_pos c] at h'
      refine Rt_t (i_le (by omega)) ?_
      exact ct N x3 (by omega) (by rw [h']; exact h3)
    · rw [if_neg c] at h'
      refine Rt_f (i_nle (by omega)) ?_
      by_cases d : f r ≤ f (a + 1)
      · rw [if_pos d] at h'
        refine Rt_t (i_le (by omega)) ?_
        exact ct N x3 (by omega) (by rw [h']; exact h3)
      · rw [if_neg d] at h'
        refine Rt_f (i_nle (by omega)) ?_
        refine Rt_fl (fun v5 e5 => ?_)
        exact ih N v5 h' (by omega) (by rw [e5, i_dec (by omega)]; omega) (by omega)
theorem tn0 {n : Nat} {f : Nat → Nat} {x1 : Int32} {σ : Sg} (h1 : x1.toInt = (n : Int)) (n5 : n ≤ 5) (t : T66 n f σ) : ∀ (r N : Nat) (x2 : Int32), oRis f (n - 1) = oRis f r → r + 60 ≤ N → x2.toInt = (r : Int) - 1 → r ≤ n - 1 →
    Rt (LF_X11_triesNextOrder N 0 x1 x2 0 0 0 σ) (fun q σ' => FXv σ σ' ∧ (∀ k, gi σ' 67 k = gi σ 67 k) ∧ ((q = 0 ∧ oRis f (n - 1) = 0) ∨ (q = 1 ∧ ¬ oRis f (n - 1) = 0 ∧ T66 n (oNx n f) σ'))) := by
  intro r
  induction r with
  | zero =>
    intro N x2 h hN h2 hr
    obtain ⟨N, rfl⟩ : ∃ i, N = i + 1 := ⟨N - 1, by omega⟩
    show Rt (LB_X11_triesNextOrder_4 (LF_X11_triesNextOrder N) x1 x2 σ) _
    unfold LB_X11_triesNextOrder_4
    refine Rt_t (i_lt0 (by omega)) ?_
    refine Rt_f (i_nle (show _ < (0 : Int) by omega)) ?_
    exact Rt_p ⟨FXv_rf, fun _ => rfl, Or.inl ⟨rfl, h⟩⟩
  | succ r ih =>
    intro N x2 h hN h2 hr
    obtain ⟨N, rfl⟩ : ∃ i, N = i + 1 := ⟨N - 1, by omega⟩
    have ex2 := cl_eq (x := x2) (by omega)
    have v1 : (x2 + (1 : Int32)).toInt = x2.toInt + 1 := i_inc (by omega)
    have ex3 := cl_eq (x := x2 + (1 : Int32)) (by omega)
    have g2 := t r (by omega)
    have g3 := t (r + 1) (by omega)
    have h' : oRis f (n - 1) = if f r ≤ f (r + 1) then r + 1 else oRis f r := h
    show Rt (LB_X11_triesNextOrder_4 (LF_X11_triesNextOrder N) x1 x2 σ) _
    unfold LB_X11_triesNextOrder_4
    refine Rt_f (i_nlt0 (by omega)) ?_
    rw [show x2.toNatClampNeg = r from by omega, show (x2 + (1 : Int32)).toNatClampNeg = r + 1 from by omega]
    by_cases c : f r ≤ f (r + 1)
    · rw [if_pos c] at h'
      refine Rt_t (i_le (by omega)) ?_
      refine Rt_t (i_le (show (0 : Int) ≤ _ by omega)) ?_
      refine Rt_fl (fun v3 e3 => ?_)
      refine tn1 (r := r) (M0 := 10) (by omega) (by omega) n5 t (fun N' x3 hN' h3 => ?_) (n - 1) N v3 rfl (by omega) (by rw [e3, i_dec (by omega)]; omega) (by omega)
      obtain ⟨N', rfl⟩ : ∃ i, N' = i + 1 := ⟨N' - 1, by omega⟩
      have ab : ∀ a, oAbv f r a ≤ a := by
        intro a
        induction a with
        | zero => exact Nat.le_refl _
        | succ a ih =>
          show (if a + 1 ≤ r then a + 1 else if f r ≤ f (a + 1) then a + 1 else oAbv f r a) ≤ a + 1
          split
          · exact Nat.le_refl _
          split
          · exact Nat.le_refl _
          · omega
      have ab1 := ab (n - 1)
      show Rt (LB_X11_triesNextOrder_67 (LF_X11_triesNextOrder N') x1 x2 x3 σ) _
      unfold LB_X11_triesNextOrder_67
      refine Rt_fs (swpC (i := r) (by omega) h3 (by omega) (by omega) t) (fun σ2 ⟨t2, f2, k2⟩ => ?_)
      refine Rt_fl (fun v4 e4 => Rt_fl (fun v5 e5 => ?_))
      refine Rt_w (tn3 3 (r + 1) (n - 1) N' _ v4 v5 σ2 (by omega) (by omega) (by rw [e4]; omega) (by rw [e5, i_dec (by omega)]; omega) (by omega) n5 t2) (fun q σ' z => ⟨FXv_tr f2 z.2.2.1, fun k => (z.2.2.2 k).trans (k2 k), Or.inr ⟨z.1, by omega, ?_⟩⟩)
      have z2 := z.2.1
      unfold oNx
      rw [h']; exact z2
    · rw [if_neg c] at h'
      refine Rt_f (i_nle (by omega)) ?_
      refine Rt_fl (fun v9 e9 => ?_)
      exact ih N v9 h' (by omega) (by rw [e9, i_dec (by omega)]; omega) (by omega)
theorem tnoC {n : Nat} {f : Nat → Nat} {x1 : Int32} {σ : Sg} (h1 : x1.toInt = (n : Int)) (n5 : n ≤ 5) (t : T66 n f σ) :
    Rt (F_X11_triesNextOrder x1 σ) (fun q σ' => FXv σ σ' ∧ (∀ k, gi σ' 67 k = gi σ 67 k) ∧ ((q = 0 ∧ oRis f (n - 1) = 0) ∨ (q = 1 ∧ ¬ oRis f (n - 1) = 0 ∧ T66 n (oNx n f) σ'))) := by
  unfold F_X11_triesNextOrder
  refine Rt_fl (fun v1 e1 => ?_)
  have v : v1.toInt = (n : Int) - 2 := by rw [e1, i_sb (k := 2) rfl (by omega) (by omega), h1]
  by_cases c : n = 0
  · show Rt (LB_X11_triesNextOrder_4 (LF_X11_triesNextOrder 899) x1 v1 σ) _
    unfold LB_X11_triesNextOrder_4
    refine Rt_t (i_lt0 (by omega)) ?_
    refine Rt_f (i_nle (show _ < (0 : Int) by omega)) ?_
    exact Rt_p ⟨FXv_rf, fun _ => rfl, Or.inl ⟨rfl, by rw [c]; rfl⟩⟩
  · exact tn0 h1 n5 t (n - 1) 900 v1 rfl (by omega) (by omega) (Nat.le_refl _)
