/-! the row: who has which place -/
noncomputable def MV (f : Nat → Int32) (b k : Nat) (a : Int32) : Nat → Int32 := fun j => if j = k then a else if k < j ∧ j ≤ b then f (j - 1) else if b ≤ j ∧ j < k then f (j + 1) else f j
theorem sia_self {σ : Sg} {a : Nat} {g : Nat → Int32} (h : ∀ j, g j = gi σ a j) : sia σ a g = σ := by
  have e : va_up σ.1 a g = σ.1 := by
    funext b
    unfold va_up
    by_cases q : b = a
    · rw [if_pos q, q]; funext j; exact h j
    · rw [if_neg q]
  show (va_up σ.1 a g, σ.2) = σ
  rw [e]
theorem sia_sia {σ : Sg} {a : Nat} {g h : Nat → Int32} : sia (sia σ a g) a h = sia σ a h := by
  have e : va_up (va_up σ.1 a g) a h = va_up σ.1 a h := by
    funext b
    unfold va_up
    by_cases q : b = a
    · rw [if_pos q, if_pos q]
    · rw [if_neg q, if_neg q, if_neg q]
  show (va_up (va_up σ.1 a g) a h, σ.2) = _
  rw [e]
  rfl
theorem sia_ext {σ : Sg} {a : Nat} {g h : Nat → Int32} (e : ∀ j, g j = h j) : sia σ a g = sia σ a h := by rw [funext e]
theorem si_sia {σ : Sg} {a k : Nat} {v : Int32} : si σ a k v = sia σ a (fun j => if j = k then v else gi σ a j) := rfl
theorem nI_sub1 {n : Nat} (h : 0 < n) : nI n - (1 : Int32) = nI (n - 1) := by
  obtain ⟨m, rfl⟩ : ∃ m, n = m + 1 := ⟨n - 1, by omega⟩
  exact nI_pred m
theorem least_of {P : Nat → Prop} : ∀ n k : Nat, k < n → P k → ∃ j, j ≤ k ∧ P j ∧ ∀ i, i < j → ¬ P i := by
  intro n
  induction n with
  | zero => intro k h; omega
  | succ n ih =>
    intro k hk hp
    by_cases c : ∃ i, i < k ∧ P i
    · obtain ⟨i, hi, hpi⟩ := c
      obtain ⟨j, h1, h2, h3⟩ := ih i (by omega) hpi
      exact ⟨j, by omega, h2, h3⟩
    · exact ⟨k, Nat.le_refl _, hp, fun i hi hpi => c ⟨i, hi, hpi⟩⟩
theorem LF_xplaceOf {c : Nat} {a : Int32} {σ : Sg} {p0 : Nat} (hl : (p0 : Int) < (gi σ c 3).toInt) (h6 : (gi σ c 3).toInt ≤ 6) (hp : gi σ (c + 2) p0 = a) (hm : ∀ j, j < p0 → gi σ (c + 2) j ≠ a) : ∀ (n i : Nat), i ≤ p0 → p0 - i < n → LF_X1_placeOf c n a (nI i) σ = (nI p0, σ) := by
  intro n
  induction n with
  | zero => intro i _ h; exact absurd h (Nat.not_lt_zero _)
  | succ n ih =>
    intro i hi hn
    show LB_X1_placeOf_2 c (LF_X1_placeOf c n) a (nI i) σ = _
    have e : ((gi σ c 3) - (1 : Int32)).toInt = (gi σ c 3).toInt - 1 := i_sub (y := (1 : Int32)) (by show (_ : Int) ≤ (gi σ c 3).toInt - 1; omega) (by show (gi σ c 3).toInt - 1 ≤ (_ : Int); omega)
    have ei := nI_toInt (n := i) (by omega)
    unfold LB_X1_placeOf_2
    rw [nI_clamp (n := i) (by omega), fl_mk]
    by_cases c0 : i = p0
    · subst c0
      rw [if_pos hp]
      split <;> rfl
    · rw [if_neg (i_nle (by omega)), if_neg (hm i (by omega)), ← nI_succ]
      exact ih (i + 1) (by omega) (by omega)
theorem LF_mplaceOf {a : Int32} {σ : Sg} {p0 : Nat} (h6 : p0 < 6) (hp : gi σ 110 p0 = a) (hm : ∀ j, j < p0 → gi σ 110 j ≠ a) : ∀ (n i : Nat), i ≤ p0 → p0 - i < n → LF_X12_placeOf n a (nI i) σ = (nI p0, σ) := by
  intro n
  induction n with
  | zero => intro i _ h; exact absurd h (Nat.not_lt_zero _)
  | succ n ih =>
    intro i hi hn
    show LB_X12_placeOf_2 (LF_X12_placeOf n) a (nI i) σ = _
    unfold LB_X12_placeOf_2
    rw [nI_clamp (n := i) (by omega), fl_mk]
    by_cases c0 : i = p0
    · subst c0
      rw [if_pos hp]
    · rw [if_neg (hm i (by omega)), ← nI_succ]
      exact ih (i + 1) (by omega) (by omega)
theorem LF_xmoves1 {c : Nat} {a x3 : Int32} {k : Nat} (hk : k < 6) : ∀ (n p : Nat) (σ : Sg), p < 7 → k - p < n → LF_X1_moves c n 1 a (nI k) x3 (nI p) σ = (x3, sia σ (c + 2) (fun j => if j = k then a else if p ≤ j ∧ j < k then gi σ (c + 2) (j + 1) else gi σ (c + 2) j)) := by
  intro n
  induction n with
  | zero => intro p σ _ h; exact absurd h (Nat.not_lt_zero _)
  | succ n ih =>
    intro p σ hp hn
    show LB_X1_moves_40 c (LF_X1_moves c n) a (nI k) x3 (nI p) σ = _
    unfold LB_X1_moves_40
    rw [← nI_succ, nI_clamp (n := p) (by omega), nI_clamp (n := k) (by omega), nI_clamp (n := p + 1) (by omega)]
    simp only [fl_mk]
    by_cases c0 : k ≤ p
    · rw [if_pos (nI_le c0 (by omega)), si_sia]
      congr 1
      refine sia_ext (fun j => ?_)
      by_cases q : j = k
      · rw [if_pos q, if_pos q]
      · rw [if_neg q, if_neg q, if_neg (by omega)]
    · rw [if_neg (nI_ge (by omega) (by omega)), ih (p + 1) _ (by omega) (by omega), si_sia, sia_sia]
      congr 1
      refine sia_ext (fun j => ?_)
      rw [gi_sia, if_pos rfl, gi_sia, if_pos rfl]
      by_cases q : j = k
      · rw [if_pos q, if_pos q]
      · rw [if_neg q, if_neg q]
        by_cases q2 : p ≤ j ∧ j < k
        · rw [if_pos q2]
          by_cases q3 : j = p
          · rw [if_neg (show ¬ (p + 1 ≤ j ∧ j < k) by omega), if_pos q3, q3]
          · rw [if_pos (show p + 1 ≤ j ∧ j < k by omega), if_neg (show ¬ j + 1 = p by omega)]
        · rw [if_neg q2, if_neg (show ¬ (p + 1 ≤ j ∧ j < k) by omega), if_neg (show ¬ j = p by omega)]
theorem LF_xmoves0 {c : Nat} {a : Int32} {k b : Nat} (hk : k < 6) (hb : b < 6) : ∀ (n p : Nat) (σ : Sg), p ≤ b → (p - k) + 20 < n → LF_X1_moves c n 0 a (nI k) (nI b) (nI p) σ = (nI b, sia σ (c + 2) (fun j => if j = k then a else if b ≤ j ∧ j < k then gi σ (c + 2) (j + 1) else if k < j ∧ j ≤ p then gi σ (c + 2) (j - 1) else gi σ (c + 2) j)) := by
  intro n
  induction n with
  | zero => intro p σ _ h; exact absurd h (Nat.not_lt_zero _)
  | succ n ih =>
    intro p σ hp hn
    show LB_X1_moves_9 c (LF_X1_moves c n) a (nI k) (nI b) (nI p) σ = _
    unfold LB_X1_moves_9
    by_cases c0 : p ≤ k
    · rw [if_pos (nI_le c0 (by omega)), LF_xmoves1 hk n b σ (by omega) (by omega)]
      congr 1
      refine sia_ext (fun j => ?_)
      by_cases q : j = k
      · rw [if_pos q, if_pos q]
      · rw [if_neg q, if_neg q]
        by_cases q2 : b ≤ j ∧ j < k
        · rw [if_pos q2, if_pos q2]
        · rw [if_neg q2, if_neg q2, if_neg (by omega)]
    · rw [if_neg (nI_ge (by omega) (by omega)), nI_sub1 (by omega), nI_clamp (n := p) (by omega), nI_clamp (n := p - 1) (by omega)]
      simp only [fl_mk]
      rw [ih (p - 1) _ (by omega) (by omega), si_sia, sia_sia]
      congr 1
      refine sia_ext (fun j => ?_)
      simp only [gi_sia, if_true]
      by_cases q : j = k
      · rw [if_pos q, if_pos q]
      · rw [if_neg q, if_neg q]
        by_cases q2 : b ≤ j ∧ j < k
        · rw [if_pos q2, if_pos q2, if_neg (show ¬ j + 1 = p by omega)]
        · rw [if_neg q2, if_neg q2]
          by_cases q3 : k < j ∧ j ≤ p
          · rw [if_pos q3]
            by_cases q4 : j = p
            · rw [if_neg (show ¬ (k < j ∧ j ≤ p - 1) by omega), if_pos q4, q4]
            · rw [if_pos (show k < j ∧ j ≤ p - 1 by omega), if_neg (show ¬ j - 1 = p by omega)]
          · rw [if_neg q3, if_neg (show ¬ (k < j ∧ j ≤ p - 1) by omega), if_neg (show ¬ j = p by omega)]
theorem LF_mplace1 {a x3 : Int32} {k : Nat} (hk : k < 6) : ∀ (n p : Nat) (σ : Sg), p < 7 → p - k < n → LF_X12_place n 1 a (nI k) x3 (nI p) σ = (x3, sia σ 110 (fun j => if j = k then a else if k < j ∧ j ≤ p then gi σ 110 (j - 1) else gi σ 110 j)) := by
  intro n
  induction n with
  | zero => intro p σ _ h; exact absurd h (Nat.not_lt_zero _)
  | succ n ih =>
    intro p σ hp hn
    show LB_X12_place_65 (LF_X12_place n) a (nI k) x3 (nI p) σ = _
    unfold LB_X12_place_65
    by_cases c0 : p ≤ k
    · rw [if_pos (nI_le c0 (by omega)), nI_clamp (n := k) (by omega)]
      simp only [fl_mk]
      rw [si_sia]
      congr 1
      refine sia_ext (fun j => ?_)
      by_cases q : j = k
      · rw [if_pos q, if_pos q]
      · rw [if_neg q, if_neg q, if_neg (by omega)]
    · rw [if_neg (nI_ge (by omega) (by omega)), nI_sub1 (by omega), nI_clamp (n := p) (by omega), nI_clamp (n := p - 1) (by omega)]
      simp only [fl_mk]
      rw [ih (p - 1) _ (by omega) (by omega), si_sia, sia_sia]
      congr 1
      refine sia_ext (fun j => ?_)
      simp only [gi_sia, if_true]
      by_cases q : j = k
      · rw [if_pos q, if_pos q]
      · rw [if_neg q, if_neg q]
        by_cases q3 : k < j ∧ j ≤ p
        · rw [if_pos q3]
          by_cases q4 : j = p
          · rw [if_neg (show ¬ (k < j ∧ j ≤ p - 1) by omega), if_pos q4, q4]
          · rw [if_pos (show k < j ∧ j ≤ p - 1 by omega), if_neg (show ¬ j - 1 = p by omega)]
        · rw [if_neg q3, if_neg (show ¬ (k < j ∧ j ≤ p - 1) by omega), if_neg (show ¬ j = p by omega)]
theorem LF_mplace0 {a : Int32} {k b : Nat} (hk : k < 6) (hb : b < 6) : ∀ (n p : Nat) (σ : Sg), b ≤ p → p < 7 → (k - p) + 20 < n → LF_X12_place n 0 a (nI k) (nI b) (nI p) σ = (nI b, sia σ 110 (fun j => if j = k then a else if k < j ∧ j ≤ b then gi σ 110 (j - 1) else if p ≤ j ∧ j < k then gi σ 110 (j + 1) else gi σ 110 j)) := by
  intro n
  induction n with
  | zero => intro p σ _ _ h; exact absurd h (Nat.not_lt_zero _)
  | succ n ih =>
    intro p σ hp h7 hn
    show LB_X12_place_34 (LF_X12_place n) a (nI k) (nI b) (nI p) σ = _
    unfold LB_X12_place_34
    by_cases c0 : k ≤ p
    · rw [if_pos (nI_le c0 (by omega)), LF_mplace1 hk n b σ (by omega) (by omega)]
      congr 1
      refine sia_ext (fun j => ?_)
      by_cases q : j = k
      · rw [if_pos q, if_pos q]
      · rw [if_neg q, if_neg q]
        by_cases q2 : k < j ∧ j ≤ b
        · rw [if_pos q2, if_pos q2]
        · rw [if_neg q2, if_neg q2, if_neg (by omega)]
    · rw [if_neg (nI_ge (by omega) (by omega)), ← nI_succ, nI_clamp (n := p) (by omega), nI_clamp (n := p + 1) (by omega)]
      simp only [fl_mk]
      rw [ih (p + 1) _ (by omega) (by omega) (by omega), si_sia, sia_sia]
      congr 1
      refine sia_ext (fun j => ?_)
      simp only [gi_sia, if_true]
      by_cases q : j = k
      · rw [if_pos q, if_pos q]
      · rw [if_neg q, if_neg q]
        by_cases q2 : k < j ∧ j ≤ b
        · rw [if_pos q2, if_pos q2, if_neg (show ¬ j - 1 = p by omega)]
        · rw [if_neg q2, if_neg q2]
          by_cases q3 : p ≤ j ∧ j < k
          · rw [if_pos q3]
            by_cases q4 : j = p
            · rw [if_neg (show ¬ (p + 1 ≤ j ∧ j < k) by omega), if_pos q4, q4]
            · rw [if_pos (show p + 1 ≤ j ∧ j < k by omega), if_neg (show ¬ j + 1 = p by omega)]
          · rw [if_neg q3, if_neg (show ¬ (p + 1 ≤ j ∧ j < k) by omega), if_neg (show ¬ j = p by omega)]
theorem MV_x {f : Nat → Int32} {b k : Nat} {a : Int32} (j : Nat) : (if j = k then a else if b ≤ j ∧ j < k then f (j + 1) else if k < j ∧ j ≤ b then f (j - 1) else f j) = MV f b k a j := by
  unfold MV
  by_cases q : j = k
  · rw [if_pos q, if_pos q]
  · rw [if_neg q, if_neg q]
    by_cases q2 : b ≤ j ∧ j < k
    · rw [if_pos q2, if_neg (show ¬ (k < j ∧ j ≤ b) by omega), if_pos q2]
    · rw [if_neg q2, if_neg q2]
theorem nI_ofI {x : Int32} (h : 0 ≤ x.toInt) : x = nI x.toNatClampNeg := by
  have e := cl_eq h
  have l := Int32.toInt_lt x
  exact i_eq (by rw [nI_toInt (by omega)]; omega)
/-- the row of a course, on both sides -/
noncomputable def RLn (σ : Sg) (c a : Nat) : Prop := ∀ p : Nat, p < 6 → gi σ c p = gi σ a p
theorem LIN_place {a1 a2 r1 r2 : Int32} {σ σ1 σ2 : Sg} (hc : (gi σ 1 1).toInt = (gi σ 74 0).toInt) (h0 : 0 ≤ (gi σ 74 0).toInt) (h6 : (gi σ 74 0).toInt ≤ 6) (hl : (gi σ 1 3).toInt = (gi σ 1 1).toInt) (hP : PL σ) (q : RLn σ 3 110) (h1 : F_X11_place a1 a2 σ = (r1, σ1)) (h2 : F_X12_place a1 a2 σ1 = (r2, σ2)) : RLn σ2 3 110 ∧ r1 = r2 := by
  have z0 : (0 : Int32).toInt = 0 := rfl
  have n0 : nI 0 = 0 := nI_0
  unfold F_X11_place at h1
  unfold F_X12_place at h2
  rw [F_isMower, fb_mk, ite_10] at h1
  have em : ∀ s : Sg, gi s 74 0 = gi σ 74 0 → ((gi s 74 0) - (1 : Int32)).toInt = (gi σ 74 0).toInt - 1 := fun s e => by
    rw [e]; exact i_sub (y := (1 : Int32)) (by show (_ : Int) ≤ (gi σ 74 0).toInt - 1; omega) (by show (gi σ 74 0).toInt - 1 ≤ (_ : Int); omega)
  by_cases c : 0 ≤ a1.toInt ∧ a1.toInt < (gi σ 1 1).toInt
  · have ec := cl_eq c.1
    rw [if_pos c] at h1
    by_cases c2 : 0 ≤ a2.toInt ∧ a2.toInt < (gi σ 1 1).toInt
    · have ek := cl_eq c2.1
      rw [if_neg (i_nlt0 c2.1), if_pos (i_lt c2.2)] at h1
      obtain ⟨k, hk6, hk⟩ : ∃ k : Nat, k < 6 ∧ a2 = nI k := ⟨a2.toNatClampNeg, by omega, nI_ofI c2.1⟩
      obtain ⟨k0, hk0, hk1⟩ := hP a1.toNatClampNeg (by omega)
      have hk1 : gi σ 110 k0 = a1 := by rw [hk1]; exact (nI_ofI c.1).symm
      obtain ⟨p0, hp0, hp1, hp2⟩ := least_of (P := fun j => gi σ 110 j = a1) (k0 + 1) k0 (by omega) hk1
      have hx : F_X1_placeOf 1 a1 σ = (nI p0, σ) := by
        unfold F_X1_placeOf
        rw [← n0]
        exact LF_xplaceOf (by omega) (by omega) (by rw [q p0 (by omega)]; exact hp1) (fun j hj => by rw [q j (by omega)]; exact hp2 j hj) 9 0 (Nat.zero_le _) (by omega)
      have hmv : F_X1_moves 1 a1 a2 σ = (nI p0, sia σ 3 (MV (gi σ 3) p0 k a1)) := by
        unfold F_X1_moves
        rw [hx, fb_mk, hk, LF_xmoves0 hk6 (by omega) 300 p0 σ (Nat.le_refl _) (by omega)]
        congr 1
        exact sia_ext (fun j => MV_x j)
      rw [hmv, fb_mk] at h1
      obtain ⟨rfl, e⟩ := Prod.mk.inj h1
      have g74 : gi σ1 74 0 = gi σ 74 0 := by rw [← e, gi_sia, if_neg (by decide)]
      have g110 : ∀ j, gi σ1 110 j = gi σ 110 j := fun j => by rw [← e, gi_sia, if_neg (by decide)]
      have hm : F_X12_placeOf a1 σ1 = (nI p0, σ1) := by
        unfold F_X12_placeOf
        rw [← n0]
        exact LF_mplaceOf (by omega) (by rw [g110]; exact hp1) (fun j hj => by rw [g110]; exact hp2 j hj) 9 0 (Nat.zero_le _) (by omega)
      have hl2 : LF_X12_place 60 0 a1 a2 (nI p0) (nI p0) σ1 = (nI p0, sia σ1 110 (fun j => if j = k then a1 else if k < j ∧ j ≤ p0 then gi σ1 110 (j - 1) else if p0 ≤ j ∧ j < k then gi σ1 110 (j + 1) else gi σ1 110 j)) := by
        rw [hk]
        exact LF_mplace0 hk6 (by omega) 60 p0 σ1 (Nat.le_refl _) (by omega) (by omega)
      rw [F_misMower (by rw [g74]; exact h0), fb_mk, ite_10, g74, ← hc, if_pos c, F_in, fb_mk, ite_10, em σ rfl, if_pos (by omega), hm, fb_mk, hl2] at h2
      obtain ⟨rfl, e2⟩ := Prod.mk.inj h2
      refine ⟨fun p hp => ?_, rfl⟩
      rw [← e2, gi_sia, if_neg (show ¬ (3 : Nat) = 110 by decide), gi_sia, if_pos (rfl : 110 = 110), ← e, gi_sia, if_pos (rfl : 3 = 3)]
      have gg : ∀ j, gi (sia σ 3 (MV (gi σ 3) p0 k a1)) 110 j = gi σ 110 j := fun j => by rw [gi_sia, if_neg (by decide)]
      simp only [gg]
      unfold MV
      by_cases q1 : p = k
      · rw [if_pos q1, if_pos q1]
      · rw [if_neg q1, if_neg q1]
        by_cases q2 : k < p ∧ p ≤ p0
        · rw [if_pos q2, if_pos q2]; exact q _ (by omega)
        · rw [if_neg q2, if_neg q2]
          by_cases q3 : p0 ≤ p ∧ p < k
          · rw [if_pos q3, if_pos q3]; exact q _ (by omega)
          · rw [if_neg q3, if_neg q3]; exact q _ hp
    · have h1 : ((-1 : Int32), σ) = (r1, σ1) := by
        by_cases d : a2.toInt < 0
        · rw [if_pos (i_lt0 d)] at h1; exact h1
        · rw [if_neg (i_nlt0 (by omega)), if_neg (i_nlt (by omega))] at h1; exact h1
      obtain ⟨rfl, rfl⟩ := Prod.mk.inj h1
      rw [F_misMower h0, fb_mk, ite_10, ← hc, if_pos c, F_in, fb_mk, ite_10, em σ rfl, if_neg (by omega)] at h2
      obtain ⟨rfl, rfl⟩ := Prod.mk.inj h2
      exact ⟨q, rfl⟩
  · rw [if_neg c] at h1
    obtain ⟨rfl, rfl⟩ := Prod.mk.inj h1
    rw [F_misMower h0, fb_mk, ite_10, ← hc, if_neg c] at h2
    obtain ⟨rfl, rfl⟩ := Prod.mk.inj h2
    exact ⟨q, rfl⟩
