/-! the signs of E: how high the pile stands -/
noncomputable def Wf (d : Nat) : Nat → List Tok → Nat → Prop
  | h, [], h' => h = h'
  | h, Sum.inl q :: ts, h' => h + 1 ≤ d ∧ q.1 ≤ 5 ∧ q.2.1 ≤ 2 ∧ q.2.2 ≤ 99 ∧ Wf d (h + 1) ts h'
  | h, Sum.inr k :: ts, h' => if k = 0 then 1 ≤ h ∧ Wf d h ts h' else 2 ≤ h ∧ Wf d (h - 1) ts h'
theorem Wf_l {d h h' : Nat} {q : Nat × Nat × Nat} {ts : List Tok} : Wf d h (Sum.inl q :: ts) h' = (h + 1 ≤ d ∧ q.1 ≤ 5 ∧ q.2.1 ≤ 2 ∧ q.2.2 ≤ 99 ∧ Wf d (h + 1) ts h') := Eq.trans rfl rfl
theorem Wf_r {d h h' k : Nat} {ts : List Tok} : Wf d h (Sum.inr k :: ts) h' = (if k = 0 then 1 ≤ h ∧ Wf d h ts h' else 2 ≤ h ∧ Wf d (h - 1) ts h') := Eq.trans rfl rfl
theorem Wf_ap {d : Nat} {b : List Tok} {h2 : Nat} : ∀ (a : List Tok) (h h1 : Nat), Wf d h a h1 → Wf d h1 b h2 → Wf d h (a ++ b) h2 := by
  intro a
  induction a with
  | nil => intro h h1 x y; rw [show h = h1 from x]; exact y
  | cons t a ih =>
    intro h h1 x y
    cases t with
    | inl q =>
      rw [Wf_l] at x
      rw [List.cons_append, Wf_l]
      exact ⟨x.1, x.2.1, x.2.2.1, x.2.2.2.1, ih _ _ x.2.2.2.2 y⟩
    | inr k =>
      rw [Wf_r] at x
      rw [List.cons_append, Wf_r]
      by_cases hk : k = 0
      · rw [if_pos hk] at x ⊢; exact ⟨x.1, ih _ _ x.2 y⟩
      · rw [if_neg hk] at x ⊢; exact ⟨x.1, ih _ _ x.2 y⟩
theorem Wf_mono {d d' : Nat} (hd : d ≤ d') : ∀ (a : List Tok) (h h1 : Nat), Wf d h a h1 → Wf d' h a h1 := by
  intro a
  induction a with
  | nil => intro h h1 x; exact x
  | cons t a ih =>
    intro h h1 x
    cases t with
    | inl q =>
      rw [Wf_l] at x ⊢
      exact ⟨Nat.le_trans x.1 hd, x.2.1, x.2.2.1, x.2.2.2.1, ih _ _ x.2.2.2.2⟩
    | inr k =>
      rw [Wf_r] at x ⊢
      by_cases hk : k = 0
      · rw [if_pos hk] at x ⊢; exact ⟨x.1, ih _ _ x.2⟩
      · rw [if_neg hk] at x ⊢; exact ⟨x.1, ih _ _ x.2⟩
noncomputable def Gd (d : Nat) (ts : List Tok) : Prop := ∀ h, Wf (h + d) h ts (h + 1)
noncomputable def CG (d : Nat) (ts : List Tok) : Prop := ∀ h, 1 ≤ h → Wf (h + d) h ts h
theorem Gd_mono {d d' : Nat} {ts : List Tok} (hd : d ≤ d') (g : Gd d ts) : Gd d' ts := fun h => Wf_mono (by omega) _ _ _ (g h)
theorem G_pch {nx op tk d} {f : Nat → PRd} (hk : tk = Tok.A ∨ tk = Tok.O) (hf : ∀ p, (f p).1 = true → Gd d (f p).2.2) : ∀ n p, (pch nx op tk f n p).1 = true → CG d (pch nx op tk f n p).2.2 := by
  intro n
  induction n with
  | zero => intro p _ h _; exact (rfl : h = h)
  | succ n ih =>
    intro p h9
    by_cases hx : nx p = op
    · by_cases hr : (f (p + 1)).1 = true
      · have e1 : pch nx op tk f (n + 1) p = ((pch nx op tk f n (f (p + 1)).2.1).1, (pch nx op tk f n (f (p + 1)).2.1).2.1, (f (p + 1)).2.2 ++ tk :: (pch nx op tk f n (f (p + 1)).2.1).2.2) := by
          show (if nx p = op then _ else _) = _
          rw [if_pos hx, if_pos hr]
        rw [e1] at h9 ⊢
        intro h hh
        have k := ih _ h9 h hh
        refine Wf_ap _ _ _ (hf _ hr h) ?_
        rcases hk with rfl | rfl
        · show Wf _ _ (Sum.inr 1 :: _) _
          rw [Wf_r, if_neg (by decide)]; exact ⟨by omega, k⟩
        · show Wf _ _ (Sum.inr 2 :: _) _
          rw [Wf_r, if_neg (by decide)]; exact ⟨by omega, k⟩
      · have e1 : pch nx op tk f (n + 1) p = (false, (f (p + 1)).2.1, []) := by
          show (if nx p = op then _ else _) = _
          rw [if_pos hx, if_neg hr]
        rw [e1] at h9; cases h9
    · have e1 : pch nx op tk f (n + 1) p = (true, p, []) := by
        show (if nx p = op then _ else _) = _
        rw [if_neg hx]
      rw [e1]
      intro h _; exact (rfl : h = h)
theorem G_pchain {nx op tk d} {f : Nat → PRd} (hk : tk = Tok.A ∨ tk = Tok.O) (hf : ∀ p, (f p).1 = true → Gd d (f p).2.2) (p : Nat) (h9 : (pchain nx op tk f p).1 = true) : Gd (d + 1) (pchain nx op tk f p).2.2 := by
  by_cases hr : (f p).1 = true
  · have e1 : pchain nx op tk f p = ((pch nx op tk f 101 (f p).2.1).1, (pch nx op tk f 101 (f p).2.1).2.1, (f p).2.2 ++ (pch nx op tk f 101 (f p).2.1).2.2) := by
      show (if (f p).1 = true then _ else _) = _
      rw [if_pos hr]
    rw [e1] at h9 ⊢
    intro h
    have k := G_pch hk hf 101 _ h9 (h + 1) (by omega)
    rw [show h + 1 + d = h + (d + 1) from by omega] at k
    exact Wf_ap _ _ _ (Wf_mono (by omega) _ _ _ (hf p hr h)) k
  · have e1 : pchain nx op tk f p = (false, (f p).2.1, []) := by
      show (if (f p).1 = true then _ else _) = _
      rw [if_neg hr]
    rw [e1] at h9; cases h9
theorem pnum_99 {nx : Nat → Int} {p : Nat} : (pnum nx p).2.2 ≤ 99 := by
  unfold pnum
  by_cases d0 : dig (nx p) = true
  · have b0 := of_decide_eq_true d0
    rw [if_pos d0]
    by_cases d1 : dig (nx (p + 1)) = true
    · have b1 := of_decide_eq_true d1
      rw [if_pos d1]
      show 10 * (nx p - 48).toNat + (nx (p + 1) - 48).toNat ≤ 99
      omega
    · rw [if_neg d1]
      show (nx p - 48).toNat ≤ 99
      omega
  · rw [if_neg d0]; exact Nat.zero_le _
theorem G_test {nx : Nat → Int} {p : Nat} (h : (ptest nx p).1 = true) : Gd 1 (ptest nx p).2.2 := by
  unfold ptest at h ⊢
  cases e1 : ltr (nx p) with
  | none => rw [e1] at h; cases h
  | some f =>
    rw [e1] at h
    cases e2 : cmpn (nx (p + 1)) with
    | none => simp only [e2] at h; cases h
    | some s =>
      simp only [e2] at h ⊢
      by_cases hq : (pnum nx (p + 2)).1 = true
      · rw [if_pos hq]
        intro h
        show Wf _ _ [Sum.inl (f, s, (pnum nx (p + 2)).2.2)] _
        rw [Wf_l]
        exact ⟨Nat.le_refl _, (ltr_lt e1).1, (cmp_lt e2).1, pnum_99, rfl⟩
      · rw [if_neg hq] at h; cases h
theorem G_part {nx : Nat → Int} : ∀ k p, (ppart nx (ptest nx) k p).1 = true → Gd (1 + 2 * k) (ppart nx (ptest nx) k p).2.2 := by
  intro k
  induction k with
  | zero => intro p h; exact G_test h
  | succ k ih =>
    intro p h
    by_cases h33 : nx p = 33
    · by_cases hr : (ppart nx (ptest nx) k (p + 1)).1 = true
      · have e1 : ppart nx (ptest nx) (k + 1) p = (true, (ppart nx (ptest nx) k (p + 1)).2.1, (ppart nx (ptest nx) k (p + 1)).2.2 ++ [.N]) := by
          show (if nx p = 33 then _ else _) = _
          rw [if_pos h33, if_pos hr]
        rw [e1]
        intro h
        refine Wf_ap _ _ _ (Wf_mono (by omega) _ _ _ (ih _ hr h)) ?_
        show Wf _ _ [Sum.inr 0] _
        rw [Wf_r, if_pos rfl]
        exact ⟨by omega, rfl⟩
      · have e1 : ppart nx (ptest nx) (k + 1) p = (false, (ppart nx (ptest nx) k (p + 1)).2.1, []) := by
          show (if nx p = 33 then _ else _) = _
          rw [if_pos h33, if_neg hr]
        rw [e1] at h; cases h
    · by_cases h40 : nx p = 40
      · by_cases hr : (peither nx (ppart nx (ptest nx) k) (p + 1)).1 = true
        · by_cases h41 : nx (peither nx (ppart nx (ptest nx) k) (p + 1)).2.1 = 41
          · have e1 : ppart nx (ptest nx) (k + 1) p = (true, (peither nx (ppart nx (ptest nx) k) (p + 1)).2.1 + 1, (peither nx (ppart nx (ptest nx) k) (p + 1)).2.2) := by
              show (if nx p = 33 then _ else _) = _
              rw [if_neg h33, if_pos h40, if_pos hr, if_pos h41]
            rw [e1]
            refine Gd_mono (d := 1 + 2 * k + 1 + 1) (by omega) ?_
            exact G_pchain (Or.inr rfl) (fun q hq => G_pchain (Or.inl rfl) ih q hq) (p + 1) hr
          · have e1 : ppart nx (ptest nx) (k + 1) p = (false, (peither nx (ppart nx (ptest nx) k) (p + 1)).2.1, []) := by
              show (if nx p = 33 then _ else _) = _
              rw [if_neg h33, if_pos h40, if_pos hr, if_neg h41]
            rw [e1] at h; cases h
        · have e1 : ppart nx (ptest nx) (k + 1) p = (false, (peither nx (ppart nx (ptest nx) k) (p + 1)).2.1, []) := by
            show (if nx p = 33 then _ else _) = _
            rw [if_neg h33, if_pos h40, if_neg hr]
          rw [e1] at h; cases h
      · have e1 : ppart nx (ptest nx) (k + 1) p = ptest nx p := by
          show (if nx p = 33 then _ else _) = _
          rw [if_neg h33, if_neg h40]
        rw [e1] at h ⊢
        exact Gd_mono (by omega) (G_test h)
theorem G_pE {nx : Nat → Int} {p : Nat} (h : (pE nx p).1 = true) : Gd 11 (pE nx p).2.2 :=
  G_pchain (Or.inr rfl) (fun q hq => G_pchain (Or.inl rfl) (fun q hq => G_part 4 q hq) q hq) p h
/-- a clause as it may be -/
noncomputable abbrev PW1 (c : Cls) : Prop := (c.1 ≤ 4) ∧ (c.2.1 ≤ 99) ∧ (c.1 ≤ 1 → Gd 11 c.2.2) ∧ (2 ≤ c.1 → c.2.2 = [])
noncomputable abbrev PW (cl : List Cls) : Prop := ∀ c, c ∈ cl → PW1 c
theorem pclause_PW {nx : Nat → Int} {p : Nat} (h : (pclause nx p).1 = true) : PW1 (pclause nx p).2.2 := by
  cases e1 : wrd (nx p) with
  | none => rw [pcl_n e1] at h; cases h
  | some w =>
    obtain ⟨w4, -⟩ := wrd_lt e1
    by_cases hm : (pmatch nx (wtx w) p).1 = true
    · by_cases hd : (pnum nx (pmatch nx (wtx w) p).2).1 = true
      · by_cases hw : 2 ≤ w
        · rw [pcl_2 e1 hm hd hw]
          exact ⟨w4, pnum_99, fun h9 => absurd h9 (by show ¬ w ≤ 1; omega), fun _ => rfl⟩
        · by_cases hb : nx (pnum nx (pmatch nx (wtx w) p).2).2.1 = 32
          · rw [pcl_e e1 hm hd hw hb] at h ⊢
            exact ⟨w4, pnum_99, fun _ => G_pE h, fun h9 => absurd h9 hw⟩
          · rw [pcl_b e1 hm hd hw hb] at h; cases h
      · rw [pcl_d e1 hm (Bool.eq_false_iff.mpr hd)] at h; cases h
    · rw [pcl_w e1 (Bool.eq_false_iff.mpr hm)] at h; cases h
theorem ptext_PW {nx : Nat → Int} {e : Nat} : ∀ k p cl, PW cl → (ptext nx e k p cl).1 = true → PW (ptext nx e k p cl).2.2 := by
  intro k
  induction k with
  | zero => intro p cl _ h; cases h
  | succ k ih =>
    intro p cl hc h
    rw [ptext_s] at h ⊢
    by_cases hr : (pclause nx p).1 = true
    · have hc2 : PW (cl ++ [(pclause nx p).2.2]) := by
        intro c hc9
        rcases List.mem_append.mp hc9 with h9 | h9
        · exact hc c h9
        · rw [List.mem_singleton.mp h9]; exact pclause_PW hr
      rw [if_pos hr] at h ⊢
      by_cases hp : (pclause nx p).2.1 = e
      · rw [if_pos hp]; exact hc2
      · rw [if_neg hp] at h ⊢
        by_cases hk : k = 0
        · rw [if_pos hk] at h; cases h
        · rw [if_neg hk] at h ⊢
          by_cases hs : nx (pclause nx p).2.1 = 59
          · rw [if_pos hs] at h ⊢; exact ih _ _ hc2 h
          · rw [if_neg hs] at h; cases h
    · rw [if_neg hr] at h; cases h
