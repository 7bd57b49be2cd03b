/-! order: the best one, the class's answer -/
theorem aBst_s' {f : Nat → Int} {j k : Nat} {b m : Int} : aBst f (j + 1) k b m = if m < f k then aBst f j (k + 1) (k : Int) (f k) else aBst f j (k + 1) b m := Eq.trans rfl rfl
noncomputable def O67 (n : Nat) (b m : Int) (σ : Sg) : Prop := m = -1 ∨ ∃ q : Nat, b = (q : Int) ∧ ∀ k, k < n → (gi σ 67 k).toInt = (oF n q k : Int)
theorem O67_e {n : Nat} {b m : Int} {σ σ' : Sg} (e : ∀ k, gi σ' 67 k = gi σ 67 k) (h : O67 n b m σ) : O67 n b m σ' := by
  rcases h with h | ⟨q, h1, h2⟩
  · exact Or.inl h
  · exact Or.inr ⟨q, h1, fun k hk => by rw [e]; exact h2 k hk⟩
theorem fb1 {n j : Nat} {K : Int} {S : Stc} {D : Dyn} {x1 x2 : Int32} (n5 : n ≤ 5) (h1 : x1.toInt = (j : Int)) (hj : j ≤ 60) (h2 : x2.toInt = (n : Int)) : ∀ (i q N : Nat) (x3 x4 x5 : Int32) (b m : Int) (σ : Sg), i + q = oFac n → (i = 0 → x4 = 0) → (1 ≤ i → x4 = 1 ∧ T66 n (oF n q) σ) → i < N → x5.toInt = (q : Int) → x3.toInt = m → -1 ≤ m → HCl n K S D σ → O67 n b m σ →
    Rt (LF_X11_findsBestOrder N 1 x1 x2 x3 x4 x5 σ) (fun r σ' => r.toInt = (aBst (oTt n S D j) i q b m).2 ∧ O67 n (aBst (oTt n S D j) i q b m).1 (aBst (oTt n S D j) i q b m).2 σ') := by
  have hfac := oFac_b n (by omega)
  intro i
  induction i with
  | zero =>
    intro q N x3 x4 x5 b m σ hi hx4 _ hN h5 h3 hm h o
    obtain ⟨N, rfl⟩ : ∃ i, N = i + 1 := ⟨N - 1, by omega⟩
    show Rt (LB_X11_findsBestOrder_40 (LF_X11_findsBestOrder N) x1 x2 x3 x4 x5 σ) _
    unfold LB_X11_findsBestOrder_40
    by_cases c : (120 : Int32) ≤ x5
    · exact Rt_t c (Rt_p ⟨h3, o⟩)
    · exact Rt_f c (Rt_t (hx4 rfl) (Rt_p ⟨h3, o⟩))
  | succ i ih =>
    intro q N x3 x4 x5 b m σ hi _ hx4 hN h5 h3 hm h o
    obtain ⟨N, rfl⟩ : ∃ i, N = i + 1 := ⟨N - 1, by omega⟩
    obtain ⟨x41, t⟩ := hx4 (by omega)
    have hq : q < oFac n := by omega
    have ex := cl_eq (x := x2) (by omega)
    have vf := oVal n (by omega) q (by omega) hq
    have tb : 0 ≤ oTt n S D j q ∧ oTt n S D j q ≤ 60000 := tot_b h.1.1 (aMins_b (SBd_or h.1 vf) j (dAt (fun _ => 0) D) K (DBd_at h.2.1 (fun m _ => ⟨Int.le_refl _, by decide⟩)))
    show Rt (LB_X11_findsBestOrder_40 (LF_X11_findsBestOrder N) x1 x2 x3 x4 x5 σ) _
    unfold LB_X11_findsBestOrder_40
    refine Rt_f (i_nle (show _ < (120 : Int) by omega)) ?_
    refine Rt_f (by rw [x41]; decide) ?_
    refine Rt_fb (tioC h n5 h1 hj t vf) (fun r4 σ3 ⟨v, fo⟩ => ?_)
    have v : r4.toInt = oTt n S D j q := v
    have t3 : T66 n (oF n q) σ3 := T66_e fo.2.1 t
    have o3 : O67 n b m σ3 := O67_e fo.2.2 o
    have h3' := HCl_v fo.1 h
    -- behind the next order
    have go : ∀ (r7 v8 y3 : Int32) (b' m' : Int) (σ4 σ6 : Sg), HCl n K S D σ4 → O67 n b' m' σ4 → y3.toInt = m' → -1 ≤ m' → v8.toInt = ((q + 1 : Nat) : Int) → FXv σ4 σ6 → (∀ k, gi σ6 67 k = gi σ4 67 k) → ((r7 = 0 ∧ oRis (oF n q) (n - 1) = 0) ∨ (r7 = 1 ∧ ¬ oRis (oF n q) (n - 1) = 0 ∧ T66 n (oNx n (oF n q)) σ6)) →
        Rt (LF_X11_findsBestOrder N 1 x1 x2 y3 r7 v8 σ6) (fun r σ' => r.toInt = (aBst (oTt n S D j) i (q + 1) b' m').2 ∧ O67 n (aBst (oTt n S D j) i (q + 1) b' m').1 (aBst (oTt n S D j) i (q + 1) b' m').2 σ') := by
      intro r7 v8 y3 b' m' σ4 σ6 h4 o4 hy hm' hv f6 k6 c
      refine ih (q + 1) N y3 r7 v8 b' m' σ6 (by omega) (fun hi0 => ?_) (fun hi1 => ?_) (by omega) hv hy hm' (HCl_v f6 h4) (O67_e k6 o4)
      · rcases c with ⟨c, -⟩ | ⟨-, c, -⟩
        · exact c
        · have := (oN1 (by omega) hq c).1; omega
      · rcases c with ⟨-, c⟩ | ⟨c1, c, c2⟩
        · have := oN0 (by omega) hq c; omega
        · exact ⟨c1, fun k hk => by rw [c2 k hk, (oN1 (by omega) hq c).2 k hk]⟩
    rw [aBst_s']
    by_cases c : m < oTt n S D j q
    · rw [if_pos c]
      refine Rt_f (i_nle (by omega)) ?_
      refine Rt_fl (fun σ9 e9 => ?_)
      have f9 : FXv σ3 σ9 := by rw [e9]; exact FX_sia FX_rf (Or.inr (by decide))
      have t9 : T66 n (oF n q) σ9 := T66_e (fun k => by rw [e9, gi_sia, if_neg (by decide)]) t3
      have o9 : O67 n (q : Int) (oTt n S D j q) σ9 := Or.inr ⟨q, rfl, fun k hk => by
        rw [e9, gi_sia, if_pos rfl, show (0 : Int32).toNatClampNeg = 0 from rfl, show x2.toNatClampNeg = n from by omega, cpy_in _ _ hk]
        exact t3 k hk⟩
      refine Rt_fb (tnoC h2 n5 t9) (fun r11 σ10 ⟨f10, k10, c10⟩ => ?_)
      refine Rt_fl (fun v12 e12 => ?_)
      exact go r11 v12 r4 _ _ σ9 σ10 (HCl_v f9 h3') o9 v (by omega) (by rw [e12, i_inc (by omega)]; omega) f10 k10 c10
    · rw [if_neg c]
      refine Rt_t (i_le (by omega)) ?_
      refine Rt_fb (tnoC h2 n5 t3) (fun r7 σ6 ⟨f6, k6, c6⟩ => ?_)
      refine Rt_fl (fun v8 e8 => ?_)
      exact go r7 v8 x3 b m σ3 σ6 h3' o3 h3 hm (by rw [e8, i_inc (by omega)]; omega) f6 k6 c6
theorem fb0 {n M0 : Nat} {x1 x2 : Int32} {σ0 : Sg} {Q : Int32 → Sg → Prop} (n5 : n ≤ 5) (h2 : x2.toInt = (n : Int))
    (ct : ∀ (N : Nat) (σ : Sg), M0 ≤ N → FXv σ0 σ → T66 n (oF n 0) σ → Rt (LF_X11_findsBestOrder N 1 x1 x2 (-1 : Int32) (1 : Int32) (0 : Int32) σ) Q) : ∀ (i k N : Nat) (x3 : Int32) (σ : Sg), i + k = n → i + 1 + M0 ≤ N → x3.toInt = (k : Int) → FXv σ0 σ → (∀ p, p < k → (gi σ 66 p).toInt = (p : Int)) →
    Rt (LF_X11_findsBestOrder N 0 x1 x2 x3 0 0 σ) Q := by
  intro i
  induction i with
  | zero =>
    intro k N x3 σ hi hN h3 fv hp
    obtain ⟨N, rfl⟩ : ∃ i, N = i + 1 := ⟨N - 1, by omega⟩
    show Rt (LB_X11_findsBestOrder_14 (LF_X11_findsBestOrder N) x1 x2 x3 σ) _
    unfold LB_X11_findsBestOrder_14
    refine Rt_t (i_le (by omega)) ?_
    exact ct N σ (by omega) fv (fun p hp' => by rw [hp p (by omega), oFst n (by omega) p hp'])
  | succ i ih =>
    intro k N x3 σ hi hN h3 fv hp
    obtain ⟨N, rfl⟩ : ∃ i, N = i + 1 := ⟨N - 1, by omega⟩
    have ex := cl_eq (x := x3) (by omega)
    show Rt (LB_X11_findsBestOrder_14 (LF_X11_findsBestOrder N) x1 x2 x3 σ) _
    unfold LB_X11_findsBestOrder_14
    refine Rt_f (i_nle (by omega)) ?_
    rw [show x3.toNatClampNeg = k from by omega]
    refine Rt_fl (fun σ3 e3 => Rt_fl (fun v4 e4 => ?_))
    refine ih (k + 1) N v4 σ3 (by omega) (by omega) (by rw [e4, i_inc (by omega)]; omega) (FXv_tr fv (by rw [e3]; exact FX_si FX_rf (Or.inl (Or.inr (by decide))))) (fun p hp' => ?_)
    rw [e3, gi_si]
    by_cases q : p = k
    · rw [if_pos ⟨rfl, q⟩, q]; exact h3
    · rw [if_neg (fun z => q z.2)]; exact hp p (by omega)
noncomputable def oBest (n : Nat) (S : Stc) (D : Dyn) (j : Nat) : Int × Int := aBst (oTt n S D j) (oFac n) 0 0 (-1)
theorem oBest_p {n j : Nat} {K : Int} {S : Stc} {D : Dyn} {b m : Int} (n5 : n ≤ 5) (sb : SBd n S) (db : DBd n K D) : -1 < (oBest n S D j).2 := by
  have hfac := oFac_b n (by omega)
  obtain ⟨i, hi⟩ : ∃ i, oFac n = i + 1 := ⟨oFac n - 1, by omega⟩
  have mono : ∀ (i k : Nat) (b m : Int), m ≤ (aBst (oTt n S D j) i k b m).2 := by
    intro i
    induction i with
    | zero => intro k b m; exact Int.le_refl _
    | succ i ih =>
      intro k b m
      rw [aBst_s']
      by_cases c : m < oTt n S D j k
      · rw [if_pos c]; have := ih (k + 1) (k : Int) (oTt n S D j k); omega
      · rw [if_neg c]; exact ih (k + 1) b m
  have tb : 0 ≤ oTt n S D j 0 ∧ oTt n S D j 0 ≤ 60000 := tot_b sb.1 (aMins_b (SBd_or sb (oVal n (by omega) 0 (by decide) (by omega))) j (dAt (fun _ => 0) D) K (DBd_at db (fun m _ => ⟨Int.le_refl _, by decide⟩)))
  unfold oBest
  rw [hi, aBst_s', if_pos (by omega)]
  have := mono i (0 + 1) ((0 : Nat) : Int) (oTt n S D j 0); omega
theorem fboC {n j : Nat} {K : Int} {S : Stc} {D : Dyn} {x1 : Int32} {σ : Sg} (h : HCl n K S D σ) (n5 : n ≤ 5) (h1 : x1.toInt = (j : Int)) (hj : j ≤ 60) :
    Rt (F_X11_findsBestOrder x1 σ) (fun r σ' => r.toInt = (oBest n S D j).2 ∧ ∃ q : Nat, (oBest n S D j).1 = (q : Int) ∧ ∀ k, k < n → (gi σ' 67 k).toInt = (oF n q k : Int)) := by
  have hn := h.2.2.2.2.2.1.1
  have hfac := oFac_b n (by omega)
  unfold F_X11_findsBestOrder
  refine Rt_fl (fun v1 e1 => ?_)
  have v : v1.toInt = (n : Int) := by
    have z : (5 : Int32).toInt = 5 := rfl
    rw [e1, jmin_f]; split <;> omega
  refine fb0 (M0 := 300) n5 v (fun N σ' hN fv t => ?_) n 0 900 (0 : Int32) σ rfl (by omega) rfl FXv_rf (fun p hp => absurd hp (Nat.not_lt_zero p))
  refine Rt_w (fb1 n5 h1 hj v (oFac n) 0 N (-1 : Int32) (1 : Int32) (0 : Int32) 0 (-1) σ' rfl (fun z => by omega) (fun _ => ⟨rfl, t⟩) (by omega) rfl rfl (Int.le_refl _) (HCl_v fv h) (Or.inl rfl)) (fun r σ'' q => ⟨q.1, ?_⟩)
  have p := oBest_p (j := j) (b := 0) (m := 0) n5 h.1 h.2.1
  rcases q.2 with z | z
  · have z : (oBest n S D j).2 = -1 := z
    omega
  · exact z
noncomputable def r_order (n : Nat) (S : Stc) (D : Dyn) (a1 a2 : Int) : Int :=
  if ¬ (-1 ≤ a2 ∧ a2 ≤ 4) then -1 else if ¬ (1 ≤ a1 ∧ a1 ≤ 12) then -2 else if 5 < n then -9 else if (n : Int) ≤ a2 then -5 else
    if a2 < 0 then (oBest n S D a1.toNat).2 else (oF n (oBest n S D a1.toNat).1.toNat a2.toNat : Int)
theorem r_or1 {n : Nat} {S : Stc} {D : Dyn} {a1 a2 : Int} (c : ¬ (-1 ≤ a2 ∧ a2 ≤ 4)) : r_order n S D a1 a2 = -1 := by unfold r_order; rw [if_pos c]
theorem r_or2 {n : Nat} {S : Stc} {D : Dyn} {a1 a2 : Int} (c : -1 ≤ a2 ∧ a2 ≤ 4) (d : ¬ (1 ≤ a1 ∧ a1 ≤ 12)) : r_order n S D a1 a2 = -2 := by unfold r_order; rw [if_neg (fun z => z c), if_pos d]
theorem r_or3 {n : Nat} {S : Stc} {D : Dyn} {a1 a2 : Int} (c : -1 ≤ a2 ∧ a2 ≤ 4) (d : 1 ≤ a1 ∧ a1 ≤ 12) (e : 5 < n) : r_order n S D a1 a2 = -9 := by unfold r_order; rw [if_neg (fun z => z c), if_neg (fun z => z d), if_pos e]
theorem r_or4 {n : Nat} {S : Stc} {D : Dyn} {a1 a2 : Int} (c : -1 ≤ a2 ∧ a2 ≤ 4) (d : 1 ≤ a1 ∧ a1 ≤ 12) (e : ¬ 5 < n) (g : (n : Int) ≤ a2) : r_order n S D a1 a2 = -5 := by unfold r_order; rw [if_neg (fun z => z c), if_neg (fun z => z d), if_neg e, if_pos g]
theorem r_or5 {n : Nat} {S : Stc} {D : Dyn} {a1 a2 : Int} (c : -1 ≤ a2 ∧ a2 ≤ 4) (d : 1 ≤ a1 ∧ a1 ≤ 12) (e : ¬ 5 < n) (g : ¬ (n : Int) ≤ a2) (w : a2 < 0) : r_order n S D a1 a2 = (oBest n S D a1.toNat).2 := by unfold r_order; rw [if_neg (fun z => z c), if_neg (fun z => z d), if_neg e, if_neg g, if_pos w]
theorem r_or6 {n : Nat} {S : Stc} {D : Dyn} {a1 a2 : Int} (c : -1 ≤ a2 ∧ a2 ≤ 4) (d : 1 ≤ a1 ∧ a1 ≤ 12) (e : ¬ 5 < n) (g : ¬ (n : Int) ≤ a2) (w : ¬ a2 < 0) : r_order n S D a1 a2 = (oF n (oBest n S D a1.toNat).1.toNat a2.toNat : Int) := by unfold r_order; rw [if_neg (fun z => z c), if_neg (fun z => z d), if_neg e, if_neg g, if_neg w]
theorem orderC {n : Nat} {K : Int} {S : Stc} {D : Dyn} {a1 a2 : Int32} {σ : Sg} (h : HCl n K S D σ) : Rt (F_X11_order a1 a2 σ) (fun r _ => r.toInt = r_order n S D a1.toInt a2.toInt) := by
  have hn := h.2.2.2.2.2.1.1
  have m1 : (-1 : Int32).toInt = -1 := rfl
  have m2 : (-2 : Int32).toInt = -2 := rfl
  have m5 : (-5 : Int32).toInt = -5 := rfl
  have m9 : (-9 : Int32).toInt = -9 := rfl
  have p1 : (1 : Int32).toInt = 1 := rfl
  have p4 : (4 : Int32).toInt = 4 := rfl
  have p5 : (5 : Int32).toInt = 5 := rfl
  have p12 : (12 : Int32).toInt = 12 := rfl
  have p0 : (0 : Int32).toInt = 0 := rfl
  unfold F_X11_order
  by_cases c : -1 ≤ a2.toInt ∧ a2.toInt ≤ 4
  · refine Rt_f (i_nlt (by omega)) ?_
    refine Rt_t (i_le (by omega)) ?_
    by_cases d : 1 ≤ a1.toInt ∧ a1.toInt ≤ 12
    · refine Rt_f (i_nlt (by omega)) ?_
      refine Rt_t (i_le (by omega)) ?_
      by_cases e : 5 < n
      · rw [r_or3 c d e]
        exact Rt_f (i_nle (by omega)) (Rt_p m9)
      · refine Rt_t (i_le (by omega)) ?_
        by_cases g : (n : Int) ≤ a2.toInt
        · rw [r_or4 c d e g]
          exact Rt_f (i_nlt (by omega)) (Rt_p m5)
        · refine Rt_t (i_lt (by omega)) ?_
          refine Rt_fb (fboC (j := a1.toInt.toNat) h (by omega) (by omega) (by omega)) (fun r8 σ7 ⟨v, q, hq, ho⟩ => ?_)
          by_cases w : a2.toInt < 0
          · rw [r_or5 c d e g w]
            exact Rt_f (i_nle (by omega)) (Rt_p v)
          · rw [r_or6 c d e g w]
            have ex := cl_eq (x := a2) (by omega)
            refine Rt_t (i_le (by omega)) (Rt_p ?_)
            rw [ho _ (by omega), hq, show ((q : Int)).toNat = q from by omega, show a2.toNatClampNeg = a2.toInt.toNat from by omega]
    · rw [r_or2 c d]
      by_cases e : a1.toInt < 1
      · exact Rt_t (i_lt (by omega)) (Rt_p m2)
      · exact Rt_f (i_nlt (by omega)) (Rt_f (i_nle (by omega)) (Rt_p m2))
  · rw [r_or1 c]
    by_cases e : a2.toInt < -1
    · exact Rt_t (i_lt (by omega)) (Rt_p m1)
    · exact Rt_f (i_nlt (by omega)) (Rt_f (i_nle (by omega)) (Rt_p m1))
