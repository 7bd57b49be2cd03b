/-! copying, on the model's side -/
/-- a row copied from its place x on -/
noncomputable def CL (σ : Sg) (d s x N : Nat) : Sg := sia σ d (fun j => if x ≤ j ∧ j < N then gi σ s j else gi σ d j)
theorem CL_end {σ : Sg} {d s x N : Nat} (h : N ≤ x) : CL σ d s x N = σ := sia_self (fun j => by rw [if_neg (by omega)])
theorem CL_step {σ : Sg} {d s x N : Nat} (h : x < N) (hd : s ≠ d) : CL (si σ d x (gi σ s x)) d s (x + 1) N = CL σ d s x N := by
  unfold CL
  rw [si_sia, sia_sia]
  refine sia_ext (fun j => ?_)
  simp only [gi_sia, if_true, if_neg hd]
  by_cases q : x + 1 ≤ j ∧ j < N
  · rw [if_pos q, if_pos (show x ≤ j ∧ j < N by omega)]
  · rw [if_neg q]
    by_cases q2 : j = x
    · rw [if_pos q2, if_pos (show x ≤ j ∧ j < N by omega), q2]
    · rw [if_neg q2, if_neg (show ¬ (x ≤ j ∧ j < N) by omega)]
theorem gi_CL {σ : Sg} {d s x N a k : Nat} : gi (CL σ d s x N) a k = if a = d then (if x ≤ k ∧ k < N then gi σ s k else gi σ d k) else gi σ a k := gi_sia
theorem fl_el {α β : Type} {P : β → Prop} {a : α} {f : α → β} (h : ∀ t, t = a → P (f t)) : P (fl a f) := h a rfl
theorem nI6 : (6 : Int32) = nI 6 := rfl
theorem nI24 : (24 : Int32) = nI 24 := rfl
theorem nI10 : (10 : Int32) = nI 10 := rfl
theorem nI8 : (8 : Int32) = nI 8 := rfl
theorem LF_X12_image_3 : ∀ (n x : Nat) (σ : Sg), x ≤ 8 → (8 - x) + 5 < n → LF_X12_image n 3 (nI x) σ = (gi σ 74 0, CL σ 168 148 x 8) := by
  intro n
  induction n with
  | zero => intro x σ _ h; exact absurd h (Nat.not_lt_zero _)
  | succ n ih =>
    intro x σ hx hn
    show LB_X12_image_241 (LF_X12_image n) (nI x) σ = _
    unfold LB_X12_image_241
    rw [nI8]
    by_cases c : 8 ≤ x
    · rw [if_pos (nI_le c (by omega)), CL_end c]
    · rw [if_neg (nI_ge (by omega) (by omega)), nI_clamp (n := x) (by omega), ← nI_succ]
      simp only [fl_mk]
      rw [ih (x + 1) _ (by omega) (by omega), CL_step (by omega) (by decide), gi_si_ne (Or.inl (by decide))]
theorem LF_X12_image_2 : ∀ (n x : Nat) (σ : Sg), x ≤ 10 → (10 - x) + 20 < n → LF_X12_image n 2 (nI x) σ = (gi (CL σ 167 147 x 10) 74 0, CL (CL σ 167 147 x 10) 168 148 0 8) := by
  intro n
  induction n with
  | zero => intro x σ _ h; exact absurd h (Nat.not_lt_zero _)
  | succ n ih =>
    intro x σ hx hn
    show LB_X12_image_215 (LF_X12_image n) (nI x) σ = _
    unfold LB_X12_image_215
    rw [nI10]
    by_cases c : 10 ≤ x
    · rw [if_pos (nI_le c (by omega)), CL_end c, ← nI_0, LF_X12_image_3 n 0 σ (by omega) (by omega)]
    · rw [if_neg (nI_ge (by omega) (by omega)), nI_clamp (n := x) (by omega), ← nI_succ]
      simp only [fl_mk]
      rw [ih (x + 1) _ (by omega) (by omega), CL_step (by omega) (by decide)]
theorem LF_X12_image_1 : ∀ (n x : Nat) (σ : Sg), x ≤ 24 → (24 - x) + 60 < n → LF_X12_image n 1 (nI x) σ = (gi (CL σ 163 109 x 24) 74 0, CL (CL (CL σ 163 109 x 24) 167 147 0 10) 168 148 0 8) := by
  intro n
  induction n with
  | zero => intro x σ _ h; exact absurd h (Nat.not_lt_zero _)
  | succ n ih =>
    intro x σ hx hn
    show LB_X12_image_189 (LF_X12_image n) (nI x) σ = _
    unfold LB_X12_image_189
    rw [nI24]
    by_cases c : 24 ≤ x
    · rw [if_pos (nI_le c (by omega)), CL_end c, ← nI_0, LF_X12_image_2 n 0 σ (by omega) (by omega)]
      rw [gi_CL, if_neg (show ¬ (74 : Nat) = 167 by decide)]
    · rw [if_neg (nI_ge (by omega) (by omega)), nI_clamp (n := x) (by omega), ← nI_succ]
      simp only [fl_mk]
      rw [ih (x + 1) _ (by omega) (by omega), CL_step (by omega) (by decide)]
noncomputable def C_image (σ0 σ : Sg) (x : Nat) : Prop := (∀ k, k < x → gi σ 156 k = gi σ0 103 k ∧ gi σ 157 k = gi σ0 104 k ∧ gi σ 158 k = gi σ0 105 k ∧ gi σ 159 k = gi σ0 106 k ∧ gi σ 160 k = gi σ0 107 k ∧ gi σ 161 k = gi σ0 108 k ∧ gi σ 162 k = gi σ0 110 k ∧ gi σ 164 k = gi σ0 142 k ∧ gi σ 165 k = gi σ0 143 k ∧ gi σ 166 k = gi σ0 144 k) ∧ (∀ a k, ¬ (a = 156 ∨ a = 157 ∨ a = 158 ∨ a = 159 ∨ a = 160 ∨ a = 161 ∨ a = 162 ∨ a = 164 ∨ a = 165 ∨ a = 166) → gi σ a k = gi σ0 a k)
theorem C_image_0 {σ : Sg} : C_image σ σ 0 := ⟨fun k h => absurd h (Nat.not_lt_zero _), fun _ _ _ => rfl⟩
theorem C_image_s {σ0 σ t1 t2 t3 t4 t5 t6 t7 t8 t9 t10 : Sg} {x : Nat} (h : C_image σ0 σ x) (e1 : t1 = si σ 156 x (gi σ 103 x)) (e2 : t2 = si t1 157 x (gi t1 104 x)) (e3 : t3 = si t2 158 x (gi t2 105 x)) (e4 : t4 = si t3 159 x (gi t3 106 x)) (e5 : t5 = si t4 160 x (gi t4 107 x)) (e6 : t6 = si t5 161 x (gi t5 108 x)) (e7 : t7 = si t6 162 x (gi t6 110 x)) (e8 : t8 = si t7 164 x (gi t7 142 x)) (e9 : t9 = si t8 165 x (gi t8 143 x)) (e10 : t10 = si t9 166 x (gi t9 144 x)) : C_image σ0 t10 (x + 1) := by
  obtain ⟨h1, h2⟩ := h
  have g1 : ∀ b k, b ≠ 156 → gi t1 b k = gi σ b k := fun b k hb => by rw [e1, gi_si_ne (Or.inl hb)]
  have s1 : ∀ k, gi t1 156 k = if k = x then gi σ 103 x else gi σ 156 k := fun k => by rw [e1, gi_si]; simp
  have g2 : ∀ b k, b ≠ 157 → gi t2 b k = gi t1 b k := fun b k hb => by rw [e2, gi_si_ne (Or.inl hb)]
  have s2 : ∀ k, gi t2 157 k = if k = x then gi t1 104 x else gi t1 157 k := fun k => by rw [e2, gi_si]; simp
  have g3 : ∀ b k, b ≠ 158 → gi t3 b k = gi t2 b k := fun b k hb => by rw [e3, gi_si_ne (Or.inl hb)]
  have s3 : ∀ k, gi t3 158 k = if k = x then gi t2 105 x else gi t2 158 k := fun k => by rw [e3, gi_si]; simp
  have g4 : ∀ b k, b ≠ 159 → gi t4 b k = gi t3 b k := fun b k hb => by rw [e4, gi_si_ne (Or.inl hb)]
  have s4 : ∀ k, gi t4 159 k = if k = x then gi t3 106 x else gi t3 159 k := fun k => by rw [e4, gi_si]; simp
  have g5 : ∀ b k, b ≠ 160 → gi t5 b k = gi t4 b k := fun b k hb => by rw [e5, gi_si_ne (Or.inl hb)]
  have s5 : ∀ k, gi t5 160 k = if k = x then gi t4 107 x else gi t4 160 k := fun k => by rw [e5, gi_si]; simp
  have g6 : ∀ b k, b ≠ 161 → gi t6 b k = gi t5 b k := fun b k hb => by rw [e6, gi_si_ne (Or.inl hb)]
  have s6 : ∀ k, gi t6 161 k = if k = x then gi t5 108 x else gi t5 161 k := fun k => by rw [e6, gi_si]; simp
  have g7 : ∀ b k, b ≠ 162 → gi t7 b k = gi t6 b k := fun b k hb => by rw [e7, gi_si_ne (Or.inl hb)]
  have s7 : ∀ k, gi t7 162 k = if k = x then gi t6 110 x else gi t6 162 k := fun k => by rw [e7, gi_si]; simp
  have g8 : ∀ b k, b ≠ 164 → gi t8 b k = gi t7 b k := fun b k hb => by rw [e8, gi_si_ne (Or.inl hb)]
  have s8 : ∀ k, gi t8 164 k = if k = x then gi t7 142 x else gi t7 164 k := fun k => by rw [e8, gi_si]; simp
  have g9 : ∀ b k, b ≠ 165 → gi t9 b k = gi t8 b k := fun b k hb => by rw [e9, gi_si_ne (Or.inl hb)]
  have s9 : ∀ k, gi t9 165 k = if k = x then gi t8 143 x else gi t8 165 k := fun k => by rw [e9, gi_si]; simp
  have g10 : ∀ b k, b ≠ 166 → gi t10 b k = gi t9 b k := fun b k hb => by rw [e10, gi_si_ne (Or.inl hb)]
  have s10 : ∀ k, gi t10 166 k = if k = x then gi t9 144 x else gi t9 166 k := fun k => by rw [e10, gi_si]; simp
  have f1 : ∀ k, k < x + 1 → gi t10 156 k = gi σ0 103 k := fun k hk => by
    rw [g10 _ _ (by decide)]; rw [g9 _ _ (by decide)]; rw [g8 _ _ (by decide)]; rw [g7 _ _ (by decide)]; rw [g6 _ _ (by decide)]; rw [g5 _ _ (by decide)]; rw [g4 _ _ (by decide)]; rw [g3 _ _ (by decide)]; rw [g2 _ _ (by decide)]
    rw [s1]
    by_cases q : k = x
    · rw [if_pos q]; rw [q]; exact h2 103 x (by decide)
    · rw [if_neg q]; exact (h1 k (by omega)).1
  have f2 : ∀ k, k < x + 1 → gi t10 157 k = gi σ0 104 k := fun k hk => by
    rw [g10 _ _ (by decide)]; rw [g9 _ _ (by decide)]; rw [g8 _ _ (by decide)]; rw [g7 _ _ (by decide)]; rw [g6 _ _ (by decide)]; rw [g5 _ _ (by decide)]; rw [g4 _ _ (by decide)]; rw [g3 _ _ (by decide)]
    rw [s2]
    by_cases q : k = x
    · rw [if_pos q]; rw [g1 104 _ (by decide)]; rw [q]; exact h2 104 x (by decide)
    · rw [if_neg q]; rw [g1 157 _ (by decide)]; exact (h1 k (by omega)).2.1
  have f3 : ∀ k, k < x + 1 → gi t10 158 k = gi σ0 105 k := fun k hk => by
    rw [g10 _ _ (by decide)]; rw [g9 _ _ (by decide)]; rw [g8 _ _ (by decide)]; rw [g7 _ _ (by decide)]; rw [g6 _ _ (by decide)]; rw [g5 _ _ (by decide)]; rw [g4 _ _ (by decide)]
    rw [s3]
    by_cases q : k = x
    · rw [if_pos q]; rw [g2 105 _ (by decide)]; rw [g1 105 _ (by decide)]; rw [q]; exact h2 105 x (by decide)
    · rw [if_neg q]; rw [g2 158 _ (by decide)]; rw [g1 158 _ (by decide)]; exact (h1 k (by omega)).2.2.1
  have f4 : ∀ k, k < x + 1 → gi t10 159 k = gi σ0 106 k := fun k hk => by
    rw [g10 _ _ (by decide)]; rw [g9 _ _ (by decide)]; rw [g8 _ _ (by decide)]; rw [g7 _ _ (by decide)]; rw [g6 _ _ (by decide)]; rw [g5 _ _ (by decide)]
    rw [s4]
    by_cases q : k = x
    · rw [if_pos q]; rw [g3 106 _ (by decide)]; rw [g2 106 _ (by decide)]; rw [g1 106 _ (by decide)]; rw [q]; exact h2 106 x (by decide)
    · rw [if_neg q]; rw [g3 159 _ (by decide)]; rw [g2 159 _ (by decide)]; rw [g1 159 _ (by decide)]; exact (h1 k (by omega)).2.2.2.1
  have f5 : ∀ k, k < x + 1 → gi t10 160 k = gi σ0 107 k := fun k hk => by
    rw [g10 _ _ (by decide)]; rw [g9 _ _ (by decide)]; rw [g8 _ _ (by decide)]; rw [g7 _ _ (by decide)]; rw [g6 _ _ (by decide)]
    rw [s5]
    by_cases q : k = x
    · rw [if_pos q]; rw [g4 107 _ (by decide)]; rw [g3 107 _ (by decide)]; rw [g2 107 _ (by decide)]; rw [g1 107 _ (by decide)]; rw [q]; exact h2 107 x (by decide)
    · rw [if_neg q]; rw [g4 160 _ (by decide)]; rw [g3 160 _ (by decide)]; rw [g2 160 _ (by decide)]; rw [g1 160 _ (by decide)]; exact (h1 k (by omega)).2.2.2.2.1
  have f6 : ∀ k, k < x + 1 → gi t10 161 k = gi σ0 108 k := fun k hk => by
    rw [g10 _ _ (by decide)]; rw [g9 _ _ (by decide)]; rw [g8 _ _ (by decide)]; rw [g7 _ _ (by decide)]
    rw [s6]
    by_cases q : k = x
    · rw [if_pos q]; rw [g5 108 _ (by decide)]; rw [g4 108 _ (by decide)]; rw [g3 108 _ (by decide)]; rw [g2 108 _ (by decide)]; rw [g1 108 _ (by decide)]; rw [q]; exact h2 108 x (by decide)
    · rw [if_neg q]; rw [g5 161 _ (by decide)]; rw [g4 161 _ (by decide)]; rw [g3 161 _ (by decide)]; rw [g2 161 _ (by decide)]; rw [g1 161 _ (by decide)]; exact (h1 k (by omega)).2.2.2.2.2.1
  have f7 : ∀ k, k < x + 1 → gi t10 162 k = gi σ0 110 k := fun k hk => by
    rw [g10 _ _ (by decide)]; rw [g9 _ _ (by decide)]; rw [g8 _ _ (by decide)]
    rw [s7]
    by_cases q : k = x
    · rw [if_pos q]; rw [g6 110 _ (by decide)]; rw [g5 110 _ (by decide)]; rw [g4 110 _ (by decide)]; rw [g3 110 _ (by decide)]; rw [g2 110 _ (by decide)]; rw [g1 110 _ (by decide)]; rw [q]; exact h2 110 x (by decide)
    · rw [if_neg q]; rw [g6 162 _ (by decide)]; rw [g5 162 _ (by decide)]; rw [g4 162 _ (by decide)]; rw [g3 162 _ (by decide)]; rw [g2 162 _ (by decide)]; rw [g1 162 _ (by decide)]; exact (h1 k (by omega)).2.2.2.2.2.2.1
  have f8 : ∀ k, k < x + 1 → gi t10 164 k = gi σ0 142 k := fun k hk => by
    rw [g10 _ _ (by decide)]; rw [g9 _ _ (by decide)]
    rw [s8]
    by_cases q : k = x
    · rw [if_pos q]; rw [g7 142 _ (by decide)]; rw [g6 142 _ (by decide)]; rw [g5 142 _ (by decide)]; rw [g4 142 _ (by decide)]; rw [g3 142 _ (by decide)]; rw [g2 142 _ (by decide)]; rw [g1 142 _ (by decide)]; rw [q]; exact h2 142 x (by decide)
    · rw [if_neg q]; rw [g7 164 _ (by decide)]; rw [g6 164 _ (by decide)]; rw [g5 164 _ (by decide)]; rw [g4 164 _ (by decide)]; rw [g3 164 _ (by decide)]; rw [g2 164 _ (by decide)]; rw [g1 164 _ (by decide)]; exact (h1 k (by omega)).2.2.2.2.2.2.2.1
  have f9 : ∀ k, k < x + 1 → gi t10 165 k = gi σ0 143 k := fun k hk => by
    rw [g10 _ _ (by decide)]
    rw [s9]
    by_cases q : k = x
    · rw [if_pos q]; rw [g8 143 _ (by decide)]; rw [g7 143 _ (by decide)]; rw [g6 143 _ (by decide)]; rw [g5 143 _ (by decide)]; rw [g4 143 _ (by decide)]; rw [g3 143 _ (by decide)]; rw [g2 143 _ (by decide)]; rw [g1 143 _ (by decide)]; rw [q]; exact h2 143 x (by decide)
    · rw [if_neg q]; rw [g8 165 _ (by decide)]; rw [g7 165 _ (by decide)]; rw [g6 165 _ (by decide)]; rw [g5 165 _ (by decide)]; rw [g4 165 _ (by decide)]; rw [g3 165 _ (by decide)]; rw [g2 165 _ (by decide)]; rw [g1 165 _ (by decide)]; exact (h1 k (by omega)).2.2.2.2.2.2.2.2.1
  have f10 : ∀ k, k < x + 1 → gi t10 166 k = gi σ0 144 k := fun k hk => by
    rw [s10]
    by_cases q : k = x
    · rw [if_pos q]; rw [g9 144 _ (by decide)]; rw [g8 144 _ (by decide)]; rw [g7 144 _ (by decide)]; rw [g6 144 _ (by decide)]; rw [g5 144 _ (by decide)]; rw [g4 144 _ (by decide)]; rw [g3 144 _ (by decide)]; rw [g2 144 _ (by decide)]; rw [g1 144 _ (by decide)]; rw [q]; exact h2 144 x (by decide)
    · rw [if_neg q]; rw [g9 166 _ (by decide)]; rw [g8 166 _ (by decide)]; rw [g7 166 _ (by decide)]; rw [g6 166 _ (by decide)]; rw [g5 166 _ (by decide)]; rw [g4 166 _ (by decide)]; rw [g3 166 _ (by decide)]; rw [g2 166 _ (by decide)]; rw [g1 166 _ (by decide)]; exact (h1 k (by omega)).2.2.2.2.2.2.2.2.2
  refine ⟨fun k hk => ⟨f1 k hk, f2 k hk, f3 k hk, f4 k hk, f5 k hk, f6 k hk, f7 k hk, f8 k hk, f9 k hk, f10 k hk⟩, fun a k ha => ?_⟩
  rw [g10 _ _ (fun e => ha (by omega))]; rw [g9 _ _ (fun e => ha (by omega))]; rw [g8 _ _ (fun e => ha (by omega))]; rw [g7 _ _ (fun e => ha (by omega))]; rw [g6 _ _ (fun e => ha (by omega))]; rw [g5 _ _ (fun e => ha (by omega))]; rw [g4 _ _ (fun e => ha (by omega))]; rw [g3 _ _ (fun e => ha (by omega))]; rw [g2 _ _ (fun e => ha (by omega))]; rw [g1 _ _ (fun e => ha (by omega))]
  exact h2 a k ha
noncomputable def Q_image (σ0 : Sg) (p : Int32 × Sg) : Prop := ∃ σ1, C_image σ0 σ1 6 ∧ p = (gi (CL σ1 163 109 0 24) 74 0, CL (CL (CL (σ1) 163 109 0 24) 167 147 0 10) 168 148 0 8)
theorem LF_X12_image_0 {σ0 : Sg} : ∀ (n x : Nat) (σ : Sg), x ≤ 6 → (6 - x) + 120 < n → C_image σ0 σ x → Q_image σ0 (LF_X12_image n 0 (nI x) σ) := by
  intro n
  induction n with
  | zero => intro x σ _ h; exact absurd h (Nat.not_lt_zero _)
  | succ n ih =>
    intro x σ hx hn h
    show Q_image σ0 (LB_X12_image_55 (LF_X12_image n) (nI x) σ)
    unfold LB_X12_image_55
    rw [nI6]
    by_cases c : 6 ≤ x
    · rw [if_pos (nI_le c (by omega)), ← nI_0, LF_X12_image_1 n 0 σ (by omega) (by omega)]
      have e : x = 6 := by omega
      rw [e] at h
      exact ⟨σ, h, rfl⟩
    · rw [if_neg (nI_ge (by omega) (by omega)), nI_clamp (n := x) (by omega), ← nI_succ]
      refine fl_el (P := Q_image σ0) (fun t1 e1 => ?_)
      refine fl_el (P := Q_image σ0) (fun t2 e2 => ?_)
      refine fl_el (P := Q_image σ0) (fun t3 e3 => ?_)
      refine fl_el (P := Q_image σ0) (fun t4 e4 => ?_)
      refine fl_el (P := Q_image σ0) (fun t5 e5 => ?_)
      refine fl_el (P := Q_image σ0) (fun t6 e6 => ?_)
      refine fl_el (P := Q_image σ0) (fun t7 e7 => ?_)
      refine fl_el (P := Q_image σ0) (fun t8 e8 => ?_)
      refine fl_el (P := Q_image σ0) (fun t9 e9 => ?_)
      refine fl_el (P := Q_image σ0) (fun t10 e10 => ?_)
      rw [fl_mk]
      exact ih (x + 1) t10 (by omega) (by omega) (C_image_s h e1 e2 e3 e4 e5 e6 e7 e8 e9 e10)
theorem N_mimage {σ σ' : Sg} {r : Int32} (hf : F_X12_image σ = (r, σ')) : (∀ k, k < 6 → gi σ' 156 k = gi σ 103 k ∧ gi σ' 157 k = gi σ 104 k ∧ gi σ' 158 k = gi σ 105 k ∧ gi σ' 159 k = gi σ 106 k ∧ gi σ' 160 k = gi σ 107 k ∧ gi σ' 161 k = gi σ 108 k ∧ gi σ' 162 k = gi σ 110 k ∧ gi σ' 164 k = gi σ 142 k ∧ gi σ' 165 k = gi σ 143 k ∧ gi σ' 166 k = gi σ 144 k) ∧ (∀ k, k < 24 → gi σ' 163 k = gi σ 109 k) ∧ (∀ k, k < 10 → gi σ' 167 k = gi σ 147 k) ∧ (∀ k, k < 8 → gi σ' 168 k = gi σ 148 k) ∧ (∀ a k, ¬ (a = 156 ∨ a = 157 ∨ a = 158 ∨ a = 159 ∨ a = 160 ∨ a = 161 ∨ a = 162 ∨ a = 164 ∨ a = 165 ∨ a = 166 ∨ a = 163 ∨ a = 167 ∨ a = 168 ∨ a = 74) → gi σ' a k = gi σ a k) := by
  unfold F_X12_image at hf
  obtain ⟨b0, eb0⟩ : ∃ s, s = si σ 74 49 ((1 : Int32)) := ⟨_, rfl⟩
  replace hf := f_l eb0 hf
  have gb0 : ∀ a k, a ≠ 74 → gi b0 a k = gi σ a k := fun a k ha => by rw [eb0, gi_si_ne (Or.inl ha)]
  obtain ⟨b1, eb1⟩ : ∃ s, s = si b0 74 50 (gi b0 74 12) := ⟨_, rfl⟩
  replace hf := f_l eb1 hf
  have gb1 : ∀ a k, a ≠ 74 → gi b1 a k = gi b0 a k := fun a k ha => by rw [eb1, gi_si_ne (Or.inl ha)]
  obtain ⟨b2, eb2⟩ : ∃ s, s = si b1 74 51 (gi b1 74 0) := ⟨_, rfl⟩
  replace hf := f_l eb2 hf
  have gb2 : ∀ a k, a ≠ 74 → gi b2 a k = gi b1 a k := fun a k ha => by rw [eb2, gi_si_ne (Or.inl ha)]
  obtain ⟨b3, eb3⟩ : ∃ s, s = si b2 74 52 (gi b2 74 1) := ⟨_, rfl⟩
  replace hf := f_l eb3 hf
  have gb3 : ∀ a k, a ≠ 74 → gi b3 a k = gi b2 a k := fun a k ha => by rw [eb3, gi_si_ne (Or.inl ha)]
  obtain ⟨b4, eb4⟩ : ∃ s, s = si b3 74 53 (gi b3 74 41) := ⟨_, rfl⟩
  replace hf := f_l eb4 hf
  have gb4 : ∀ a k, a ≠ 74 → gi b4 a k = gi b3 a k := fun a k ha => by rw [eb4, gi_si_ne (Or.inl ha)]
  obtain ⟨b5, eb5⟩ : ∃ s, s = si b4 74 54 (gi b4 74 45) := ⟨_, rfl⟩
  replace hf := f_l eb5 hf
  have gb5 : ∀ a k, a ≠ 74 → gi b5 a k = gi b4 a k := fun a k ha => by rw [eb5, gi_si_ne (Or.inl ha)]
  obtain ⟨b6, eb6⟩ : ∃ s, s = si b5 74 55 (gi b5 74 46) := ⟨_, rfl⟩
  replace hf := f_l eb6 hf
  have gb6 : ∀ a k, a ≠ 74 → gi b6 a k = gi b5 a k := fun a k ha => by rw [eb6, gi_si_ne (Or.inl ha)]
  have g0 : ∀ a k, a ≠ 74 → gi b6 a k = gi σ a k := fun a k ha => by rw [gb6 a k ha, gb5 a k ha, gb4 a k ha, gb3 a k ha, gb2 a k ha, gb1 a k ha, gb0 a k ha]
  rw [← nI_0] at hf
  have hz0 : LF_X12_image 900 0 (nI 0) b6 = (r, σ') := hf
  obtain ⟨s, ⟨c1, c2⟩, e⟩ := LF_X12_image_0 (σ0 := b6) 900 0 b6 (by decide) (by decide) C_image_0
  rw [e] at hz0
  obtain ⟨-, rfl⟩ := Prod.mk.inj hz0
  have q1 : ∀ a k, gi (CL (CL (CL s 163 109 0 24) 167 147 0 10) 168 148 0 8) a k = if a = 168 then (if 0 ≤ k ∧ k < 8 then gi s 148 k else gi s 168 k) else if a = 167 then (if 0 ≤ k ∧ k < 10 then gi s 147 k else gi s 167 k) else if a = 163 then (if 0 ≤ k ∧ k < 24 then gi s 109 k else gi s 163 k) else gi s a k := fun a k => by
    simp only [gi_CL]; simp
  refine ⟨fun k hk => ?_, fun k hk => ?_, fun k hk => ?_, fun k hk => ?_, fun a k ha => ?_⟩
  · obtain ⟨d0, d1, d2, d3, d4, d5, d6, d7, d8, d9⟩ := c1 k hk
    refine ⟨?_, ?_, ?_, ?_, ?_, ?_, ?_, ?_, ?_, ?_⟩ <;> (rw [q1]; simp)
    · rw [d0]; exact g0 _ _ (by decide)
    · rw [d1]; exact g0 _ _ (by decide)
    · rw [d2]; exact g0 _ _ (by decide)
    · rw [d3]; exact g0 _ _ (by decide)
    · rw [d4]; exact g0 _ _ (by decide)
    · rw [d5]; exact g0 _ _ (by decide)
    · rw [d6]; exact g0 _ _ (by decide)
    · rw [d7]; exact g0 _ _ (by decide)
    · rw [d8]; exact g0 _ _ (by decide)
    · rw [d9]; exact g0 _ _ (by decide)
  · rw [q1]; simp [hk]; rw [c2 _ _ (by decide)]; exact g0 _ _ (by decide)
  · rw [q1]; simp [hk]; rw [c2 _ _ (by decide)]; exact g0 _ _ (by decide)
  · rw [q1]; simp [hk]; rw [c2 _ _ (by decide)]; exact g0 _ _ (by decide)
  · rw [q1, if_neg (fun e => ha (by omega)), if_neg (fun e => ha (by omega)), if_neg (fun e => ha (by omega)), c2 _ _ (fun e => ha (by omega))]; exact g0 _ _ (fun e => ha (by omega))
theorem LF_X12_undo_3 : ∀ (n x : Nat) (σ : Sg), x ≤ 8 → (8 - x) + 5 < n → LF_X12_undo n 3 (nI x) σ = (gi σ 74 0, CL σ 148 168 x 8) := by
  intro n
  induction n with
  | zero => intro x σ _ h; exact absurd h (Nat.not_lt_zero _)
  | succ n ih =>
    intro x σ hx hn
    show LB_X12_undo_254 (LF_X12_undo n) (nI x) σ = _
    unfold LB_X12_undo_254
    rw [nI8]
    by_cases c : 8 ≤ x
    · rw [if_pos (nI_le c (by omega)), CL_end c]
    · rw [if_neg (nI_ge (by omega) (by omega)), nI_clamp (n := x) (by omega), ← nI_succ]
      simp only [fl_mk]
      rw [ih (x + 1) _ (by omega) (by omega), CL_step (by omega) (by decide), gi_si_ne (Or.inl (by decide))]
theorem LF_X12_undo_2 : ∀ (n x : Nat) (σ : Sg), x ≤ 10 → (10 - x) + 20 < n → LF_X12_undo n 2 (nI x) σ = (gi (CL σ 147 167 x 10) 74 0, CL (CL σ 147 167 x 10) 148 168 0 8) := by
  intro n
  induction n with
  | zero => intro x σ _ h; exact absurd h (Nat.not_lt_zero _)
  | succ n ih =>
    intro x σ hx hn
    show LB_X12_undo_228 (LF_X12_undo n) (nI x) σ = _
    unfold LB_X12_undo_228
    rw [nI10]
    by_cases c : 10 ≤ x
    · rw [if_pos (nI_le c (by omega)), CL_end c, ← nI_0, LF_X12_undo_3 n 0 σ (by omega) (by omega)]
    · rw [if_neg (nI_ge (by omega) (by omega)), nI_clamp (n := x) (by omega), ← nI_succ]
      simp only [fl_mk]
      rw [ih (x + 1) _ (by omega) (by omega), CL_step (by omega) (by decide)]
theorem LF_X12_undo_1 : ∀ (n x : Nat) (σ : Sg), x ≤ 24 → (24 - x) + 60 < n → LF_X12_undo n 1 (nI x) σ = (gi (CL σ 109 163 x 24) 74 0, CL (CL (CL σ 109 163 x 24) 147 167 0 10) 148 168 0 8) := by
  intro n
  induction n with
  | zero => intro x σ _ h; exact absurd h (Nat.not_lt_zero _)
  | succ n ih =>
    intro x σ hx hn
    show LB_X12_undo_202 (LF_X12_undo n) (nI x) σ = _
    unfold LB_X12_undo_202
    rw [nI24]
    by_cases c : 24 ≤ x
    · rw [if_pos (nI_le c (by omega)), CL_end c, ← nI_0, LF_X12_undo_2 n 0 σ (by omega) (by omega)]
      rw [gi_CL, if_neg (show ¬ (74 : Nat) = 147 by decide)]
    · rw [if_neg (nI_ge (by omega) (by omega)), nI_clamp (n := x) (by omega), ← nI_succ]
      simp only [fl_mk]
      rw [ih (x + 1) _ (by omega) (by omega), CL_step (by omega) (by decide)]
noncomputable def C_undo (σ0 σ : Sg) (x : Nat) : Prop := (∀ k, k < x → gi σ 103 k = gi σ0 156 k ∧ gi σ 104 k = gi σ0 157 k ∧ gi σ 105 k = gi σ0 158 k ∧ gi σ 106 k = gi σ0 159 k ∧ gi σ 107 k = gi σ0 160 k ∧ gi σ 108 k = gi σ0 161 k ∧ gi σ 110 k = gi σ0 162 k ∧ gi σ 142 k = gi σ0 164 k ∧ gi σ 143 k = gi σ0 165 k ∧ gi σ 144 k = gi σ0 166 k) ∧ (∀ a k, ¬ (a = 103 ∨ a = 104 ∨ a = 105 ∨ a = 106 ∨ a = 107 ∨ a = 108 ∨ a = 110 ∨ a = 142 ∨ a = 143 ∨ a = 144) → gi σ a k = gi σ0 a k)
theorem C_undo_0 {σ : Sg} : C_undo σ σ 0 := ⟨fun k h => absurd h (Nat.not_lt_zero _), fun _ _ _ => rfl⟩
theorem C_undo_s {σ0 σ t1 t2 t3 t4 t5 t6 t7 t8 t9 t10 : Sg} {x : Nat} (h : C_undo σ0 σ x) (e1 : t1 = si σ 103 x (gi σ 156 x)) (e2 : t2 = si t1 104 x (gi t1 157 x)) (e3 : t3 = si t2 105 x (gi t2 158 x)) (e4 : t4 = si t3 106 x (gi t3 159 x)) (e5 : t5 = si t4 107 x (gi t4 160 x)) (e6 : t6 = si t5 108 x (gi t5 161 x)) (e7 : t7 = si t6 110 x (gi t6 162 x)) (e8 : t8 = si t7 142 x (gi t7 164 x)) (e9 : t9 = si t8 143 x (gi t8 165 x)) (e10 : t10 = si t9 144 x (gi t9 166 x)) : C_undo σ0 t10 (x + 1) := by
  obtain ⟨h1, h2⟩ := h
  have g1 : ∀ b k, b ≠ 103 → gi t1 b k = gi σ b k := fun b k hb => by rw [e1, gi_si_ne (Or.inl hb)]
  have s1 : ∀ k, gi t1 103 k = if k = x then gi σ 156 x else gi σ 103 k := fun k => by rw [e1, gi_si]; simp
  have g2 : ∀ b k, b ≠ 104 → gi t2 b k = gi t1 b k := fun b k hb => by rw [e2, gi_si_ne (Or.inl hb)]
  have s2 : ∀ k, gi t2 104 k = if k = x then gi t1 157 x else gi t1 104 k := fun k => by rw [e2, gi_si]; simp
  have g3 : ∀ b k, b ≠ 105 → gi t3 b k = gi t2 b k := fun b k hb => by rw [e3, gi_si_ne (Or.inl hb)]
  have s3 : ∀ k, gi t3 105 k = if k = x then gi t2 158 x else gi t2 105 k := fun k => by rw [e3, gi_si]; simp
  have g4 : ∀ b k, b ≠ 106 → gi t4 b k = gi t3 b k := fun b k hb => by rw [e4, gi_si_ne (Or.inl hb)]
  have s4 : ∀ k, gi t4 106 k = if k = x then gi t3 159 x else gi t3 106 k := fun k => by rw [e4, gi_si]; simp
  have g5 : ∀ b k, b ≠ 107 → gi t5 b k = gi t4 b k := fun b k hb => by rw [e5, gi_si_ne (Or.inl hb)]
  have s5 : ∀ k, gi t5 107 k = if k = x then gi t4 160 x else gi t4 107 k := fun k => by rw [e5, gi_si]; simp
  have g6 : ∀ b k, b ≠ 108 → gi t6 b k = gi t5 b k := fun b k hb => by rw [e6, gi_si_ne (Or.inl hb)]
  have s6 : ∀ k, gi t6 108 k = if k = x then gi t5 161 x else gi t5 108 k := fun k => by rw [e6, gi_si]; simp
  have g7 : ∀ b k, b ≠ 110 → gi t7 b k = gi t6 b k := fun b k hb => by rw [e7, gi_si_ne (Or.inl hb)]
  have s7 : ∀ k, gi t7 110 k = if k = x then gi t6 162 x else gi t6 110 k := fun k => by rw [e7, gi_si]; simp
  have g8 : ∀ b k, b ≠ 142 → gi t8 b k = gi t7 b k := fun b k hb => by rw [e8, gi_si_ne (Or.inl hb)]
  have s8 : ∀ k, gi t8 142 k = if k = x then gi t7 164 x else gi t7 142 k := fun k => by rw [e8, gi_si]; simp
  have g9 : ∀ b k, b ≠ 143 → gi t9 b k = gi t8 b k := fun b k hb => by rw [e9, gi_si_ne (Or.inl hb)]
  have s9 : ∀ k, gi t9 143 k = if k = x then gi t8 165 x else gi t8 143 k := fun k => by rw [e9, gi_si]; simp
  have g10 : ∀ b k, b ≠ 144 → gi t10 b k = gi t9 b k := fun b k hb => by rw [e10, gi_si_ne (Or.inl hb)]
  have s10 : ∀ k, gi t10 144 k = if k = x then gi t9 166 x else gi t9 144 k := fun k => by rw [e10, gi_si]; simp
  have f1 : ∀ k, k < x + 1 → gi t10 103 k = gi σ0 156 k := fun k hk => by
    rw [g10 _ _ (by decide)]; rw [g9 _ _ (by decide)]; rw [g8 _ _ (by decide)]; rw [g7 _ _ (by decide)]; rw [g6 _ _ (by decide)]; rw [g5 _ _ (by decide)]; rw [g4 _ _ (by decide)]; rw [g3 _ _ (by decide)]; rw [g2 _ _ (by decide)]
    rw [s1]
    by_cases q : k = x
    · rw [if_pos q]; rw [q]; exact h2 156 x (by decide)
    · rw [if_neg q]; exact (h1 k (by omega)).1
  have f2 : ∀ k, k < x + 1 → gi t10 104 k = gi σ0 157 k := fun k hk => by
    rw [g10 _ _ (by decide)]; rw [g9 _ _ (by decide)]; rw [g8 _ _ (by decide)]; rw [g7 _ _ (by decide)]; rw [g6 _ _ (by decide)]; rw [g5 _ _ (by decide)]; rw [g4 _ _ (by decide)]; rw [g3 _ _ (by decide)]
    rw [s2]
    by_cases q : k = x
    · rw [if_pos q]; rw [g1 157 _ (by decide)]; rw [q]; exact h2 157 x (by decide)
    · rw [if_neg q]; rw [g1 104 _ (by decide)]; exact (h1 k (by omega)).2.1
  have f3 : ∀ k, k < x + 1 → gi t10 105 k = gi σ0 158 k := fun k hk => by
    rw [g10 _ _ (by decide)]; rw [g9 _ _ (by decide)]; rw [g8 _ _ (by decide)]; rw [g7 _ _ (by decide)]; rw [g6 _ _ (by decide)]; rw [g5 _ _ (by decide)]; rw [g4 _ _ (by decide)]
    rw [s3]
    by_cases q : k = x
    · rw [if_pos q]; rw [g2 158 _ (by decide)]; rw [g1 158 _ (by decide)]; rw [q]; exact h2 158 x (by decide)
    · rw [if_neg q]; rw [g2 105 _ (by decide)]; rw [g1 105 _ (by decide)]; exact (h1 k (by omega)).2.2.1
  have f4 : ∀ k, k < x + 1 → gi t10 106 k = gi σ0 159 k := fun k hk => by
    rw [g10 _ _ (by decide)]; rw [g9 _ _ (by decide)]; rw [g8 _ _ (by decide)]; rw [g7 _ _ (by decide)]; rw [g6 _ _ (by decide)]; rw [g5 _ _ (by decide)]
    rw [s4]
    by_cases q : k = x
    · rw [if_pos q]; rw [g3 159 _ (by decide)]; rw [g2 159 _ (by decide)]; rw [g1 159 _ (by decide)]; rw [q]; exact h2 159 x (by decide)
    · rw [if_neg q]; rw [g3 106 _ (by decide)]; rw [g2 106 _ (by decide)]; rw [g1 106 _ (by decide)]; exact (h1 k (by omega)).2.2.2.1
  have f5 : ∀ k, k < x + 1 → gi t10 107 k = gi σ0 160 k := fun k hk => by
    rw [g10 _ _ (by decide)]; rw [g9 _ _ (by decide)]; rw [g8 _ _ (by decide)]; rw [g7 _ _ (by decide)]; rw [g6 _ _ (by decide)]
    rw [s5]
    by_cases q : k = x
    · rw [if_pos q]; rw [g4 160 _ (by decide)]; rw [g3 160 _ (by decide)]; rw [g2 160 _ (by decide)]; rw [g1 160 _ (by decide)]; rw [q]; exact h2 160 x (by decide)
    · rw [if_neg q]; rw [g4 107 _ (by decide)]; rw [g3 107 _ (by decide)]; rw [g2 107 _ (by decide)]; rw [g1 107 _ (by decide)]; exact (h1 k (by omega)).2.2.2.2.1
  have f6 : ∀ k, k < x + 1 → gi t10 108 k = gi σ0 161 k := fun k hk => by
    rw [g10 _ _ (by decide)]; rw [g9 _ _ (by decide)]; rw [g8 _ _ (by decide)]; rw [g7 _ _ (by decide)]
    rw [s6]
    by_cases q : k = x
    · rw [if_pos q]; rw [g5 161 _ (by decide)]; rw [g4 161 _ (by decide)]; rw [g3 161 _ (by decide)]; rw [g2 161 _ (by decide)]; rw [g1 161 _ (by decide)]; rw [q]; exact h2 161 x (by decide)
    · rw [if_neg q]; rw [g5 108 _ (by decide)]; rw [g4 108 _ (by decide)]; rw [g3 108 _ (by decide)]; rw [g2 108 _ (by decide)]; rw [g1 108 _ (by decide)]; exact (h1 k (by omega)).2.2.2.2.2.1
  have f7 : ∀ k, k < x + 1 → gi t10 110 k = gi σ0 162 k := fun k hk => by
    rw [g10 _ _ (by decide)]; rw [g9 _ _ (by decide)]; rw [g8 _ _ (by decide)]
    rw [s7]
    by_cases q : k = x
    · rw [if_pos q]; rw [g6 162 _ (by decide)]; rw [g5 162 _ (by decide)]; rw [g4 162 _ (by decide)]; rw [g3 162 _ (by decide)]; rw [g2 162 _ (by decide)]; rw [g1 162 _ (by decide)]; rw [q]; exact h2 162 x (by decide)
    · rw [if_neg q]; rw [g6 110 _ (by decide)]; rw [g5 110 _ (by decide)]; rw [g4 110 _ (by decide)]; rw [g3 110 _ (by decide)]; rw [g2 110 _ (by decide)]; rw [g1 110 _ (by decide)]; exact (h1 k (by omega)).2.2.2.2.2.2.1
  have f8 : ∀ k, k < x + 1 → gi t10 142 k = gi σ0 164 k := fun k hk => by
    rw [g10 _ _ (by decide)]; rw [g9 _ _ (by decide)]
    rw [s8]
    by_cases q : k = x
    · rw [if_pos q]; rw [g7 164 _ (by decide)]; rw [g6 164 _ (by decide)]; rw [g5 164 _ (by decide)]; rw [g4 164 _ (by decide)]; rw [g3 164 _ (by decide)]; rw [g2 164 _ (by decide)]; rw [g1 164 _ (by decide)]; rw [q]; exact h2 164 x (by decide)
    · rw [if_neg q]; rw [g7 142 _ (by decide)]; rw [g6 142 _ (by decide)]; rw [g5 142 _ (by decide)]; rw [g4 142 _ (by decide)]; rw [g3 142 _ (by decide)]; rw [g2 142 _ (by decide)]; rw [g1 142 _ (by decide)]; exact (h1 k (by omega)).2.2.2.2.2.2.2.1
  have f9 : ∀ k, k < x + 1 → gi t10 143 k = gi σ0 165 k := fun k hk => by
    rw [g10 _ _ (by decide)]
    rw [s9]
    by_cases q : k = x
    · rw [if_pos q]; rw [g8 165 _ (by decide)]; rw [g7 165 _ (by decide)]; rw [g6 165 _ (by decide)]; rw [g5 165 _ (by decide)]; rw [g4 165 _ (by decide)]; rw [g3 165 _ (by decide)]; rw [g2 165 _ (by decide)]; rw [g1 165 _ (by decide)]; rw [q]; exact h2 165 x (by decide)
    · rw [if_neg q]; rw [g8 143 _ (by decide)]; rw [g7 143 _ (by decide)]; rw [g6 143 _ (by decide)]; rw [g5 143 _ (by decide)]; rw [g4 143 _ (by decide)]; rw [g3 143 _ (by decide)]; rw [g2 143 _ (by decide)]; rw [g1 143 _ (by decide)]; exact (h1 k (by omega)).2.2.2.2.2.2.2.2.1
  have f10 : ∀ k, k < x + 1 → gi t10 144 k = gi σ0 166 k := fun k hk => by
    rw [s10]
    by_cases q : k = x
    · rw [if_pos q]; rw [g9 166 _ (by decide)]; rw [g8 166 _ (by decide)]; rw [g7 166 _ (by decide)]; rw [g6 166 _ (by decide)]; rw [g5 166 _ (by decide)]; rw [g4 166 _ (by decide)]; rw [g3 166 _ (by decide)]; rw [g2 166 _ (by decide)]; rw [g1 166 _ (by decide)]; rw [q]; exact h2 166 x (by decide)
    · rw [if_neg q]; rw [g9 144 _ (by decide)]; rw [g8 144 _ (by decide)]; rw [g7 144 _ (by decide)]; rw [g6 144 _ (by decide)]; rw [g5 144 _ (by decide)]; rw [g4 144 _ (by decide)]; rw [g3 144 _ (by decide)]; rw [g2 144 _ (by decide)]; rw [g1 144 _ (by decide)]; exact (h1 k (by omega)).2.2.2.2.2.2.2.2.2
  refine ⟨fun k hk => ⟨f1 k hk, f2 k hk, f3 k hk, f4 k hk, f5 k hk, f6 k hk, f7 k hk, f8 k hk, f9 k hk, f10 k hk⟩, fun a k ha => ?_⟩
  rw [g10 _ _ (fun e => ha (by omega))]; rw [g9 _ _ (fun e => ha (by omega))]; rw [g8 _ _ (fun e => ha (by omega))]; rw [g7 _ _ (fun e => ha (by omega))]; rw [g6 _ _ (fun e => ha (by omega))]; rw [g5 _ _ (fun e => ha (by omega))]; rw [g4 _ _ (fun e => ha (by omega))]; rw [g3 _ _ (fun e => ha (by omega))]; rw [g2 _ _ (fun e => ha (by omega))]; rw [g1 _ _ (fun e => ha (by omega))]
  exact h2 a k ha
noncomputable def Q_undo (σ0 : Sg) (p : Int32 × Sg) : Prop := ∃ σ1, C_undo σ0 σ1 6 ∧ p = (gi (CL σ1 109 163 0 24) 74 0, CL (CL (CL (σ1) 109 163 0 24) 147 167 0 10) 148 168 0 8)
theorem LF_X12_undo_0 {σ0 : Sg} : ∀ (n x : Nat) (σ : Sg), x ≤ 6 → (6 - x) + 120 < n → C_undo σ0 σ x → Q_undo σ0 (LF_X12_undo n 0 (nI x) σ) := by
  intro n
  induction n with
  | zero => intro x σ _ h; exact absurd h (Nat.not_lt_zero _)
  | succ n ih =>
    intro x σ hx hn h
    show Q_undo σ0 (LB_X12_undo_68 (LF_X12_undo n) (nI x) σ)
    unfold LB_X12_undo_68
    rw [nI6]
    by_cases c : 6 ≤ x
    · rw [if_pos (nI_le c (by omega)), ← nI_0, LF_X12_undo_1 n 0 σ (by omega) (by omega)]
      have e : x = 6 := by omega
      rw [e] at h
      exact ⟨σ, h, rfl⟩
    · rw [if_neg (nI_ge (by omega) (by omega)), nI_clamp (n := x) (by omega), ← nI_succ]
      refine fl_el (P := Q_undo σ0) (fun t1 e1 => ?_)
      refine fl_el (P := Q_undo σ0) (fun t2 e2 => ?_)
      refine fl_el (P := Q_undo σ0) (fun t3 e3 => ?_)
      refine fl_el (P := Q_undo σ0) (fun t4 e4 => ?_)
      refine fl_el (P := Q_undo σ0) (fun t5 e5 => ?_)
      refine fl_el (P := Q_undo σ0) (fun t6 e6 => ?_)
      refine fl_el (P := Q_undo σ0) (fun t7 e7 => ?_)
      refine fl_el (P := Q_undo σ0) (fun t8 e8 => ?_)
      refine fl_el (P := Q_undo σ0) (fun t9 e9 => ?_)
      refine fl_el (P := Q_undo σ0) (fun t10 e10 => ?_)
      rw [fl_mk]
      exact ih (x + 1) t10 (by omega) (by omega) (C_undo_s h e1 e2 e3 e4 e5 e6 e7 e8 e9 e10)
theorem N_mundo {σ σ' : Sg} {r : Int32} (hf : F_X12_undo σ = (r, σ')) (hz : ¬ gi σ 74 49 = 0) : (∀ k, k < 6 → gi σ' 103 k = gi σ 156 k ∧ gi σ' 104 k = gi σ 157 k ∧ gi σ' 105 k = gi σ 158 k ∧ gi σ' 106 k = gi σ 159 k ∧ gi σ' 107 k = gi σ 160 k ∧ gi σ' 108 k = gi σ 161 k ∧ gi σ' 110 k = gi σ 162 k ∧ gi σ' 142 k = gi σ 164 k ∧ gi σ' 143 k = gi σ 165 k ∧ gi σ' 144 k = gi σ 166 k) ∧ (∀ k, k < 24 → gi σ' 109 k = gi σ 163 k) ∧ (∀ k, k < 10 → gi σ' 147 k = gi σ 167 k) ∧ (∀ k, k < 8 → gi σ' 148 k = gi σ 168 k) ∧ (∀ a k, ¬ (a = 103 ∨ a = 104 ∨ a = 105 ∨ a = 106 ∨ a = 107 ∨ a = 108 ∨ a = 110 ∨ a = 142 ∨ a = 143 ∨ a = 144 ∨ a = 109 ∨ a = 147 ∨ a = 148 ∨ a = 74) → gi σ' a k = gi σ a k) := by
  unfold F_X12_undo at hf
  rw [if_neg hz] at hf
  obtain ⟨b0, eb0⟩ : ∃ s, s = si σ 74 12 (gi σ 74 50) := ⟨_, rfl⟩
  replace hf := f_l eb0 hf
  have gb0 : ∀ a k, a ≠ 74 → gi b0 a k = gi σ a k := fun a k ha => by rw [eb0, gi_si_ne (Or.inl ha)]
  obtain ⟨b1, eb1⟩ : ∃ s, s = si b0 74 0 (gi b0 74 51) := ⟨_, rfl⟩
  replace hf := f_l eb1 hf
  have gb1 : ∀ a k, a ≠ 74 → gi b1 a k = gi b0 a k := fun a k ha => by rw [eb1, gi_si_ne (Or.inl ha)]
  obtain ⟨b2, eb2⟩ : ∃ s, s = si b1 74 2 (gi b1 74 51) := ⟨_, rfl⟩
  replace hf := f_l eb2 hf
  have gb2 : ∀ a k, a ≠ 74 → gi b2 a k = gi b1 a k := fun a k ha => by rw [eb2, gi_si_ne (Or.inl ha)]
  obtain ⟨b3, eb3⟩ : ∃ s, s = si b2 74 1 (gi b2 74 52) := ⟨_, rfl⟩
  replace hf := f_l eb3 hf
  have gb3 : ∀ a k, a ≠ 74 → gi b3 a k = gi b2 a k := fun a k ha => by rw [eb3, gi_si_ne (Or.inl ha)]
  obtain ⟨b4, eb4⟩ : ∃ s, s = si b3 74 41 (gi b3 74 53) := ⟨_, rfl⟩
  replace hf := f_l eb4 hf
  have gb4 : ∀ a k, a ≠ 74 → gi b4 a k = gi b3 a k := fun a k ha => by rw [eb4, gi_si_ne (Or.inl ha)]
  obtain ⟨b5, eb5⟩ : ∃ s, s = si b4 74 45 (gi b4 74 54) := ⟨_, rfl⟩
  replace hf := f_l eb5 hf
  have gb5 : ∀ a k, a ≠ 74 → gi b5 a k = gi b4 a k := fun a k ha => by rw [eb5, gi_si_ne (Or.inl ha)]
  obtain ⟨b6, eb6⟩ : ∃ s, s = si b5 74 46 (gi b5 74 55) := ⟨_, rfl⟩
  replace hf := f_l eb6 hf
  have gb6 : ∀ a k, a ≠ 74 → gi b6 a k = gi b5 a k := fun a k ha => by rw [eb6, gi_si_ne (Or.inl ha)]
  have g0 : ∀ a k, a ≠ 74 → gi b6 a k = gi σ a k := fun a k ha => by rw [gb6 a k ha, gb5 a k ha, gb4 a k ha, gb3 a k ha, gb2 a k ha, gb1 a k ha, gb0 a k ha]
  rw [← nI_0] at hf
  have hz0 : LF_X12_undo 900 0 (nI 0) b6 = (r, σ') := hf
  obtain ⟨s, ⟨c1, c2⟩, e⟩ := LF_X12_undo_0 (σ0 := b6) 900 0 b6 (by decide) (by decide) C_undo_0
  rw [e] at hz0
  obtain ⟨-, rfl⟩ := Prod.mk.inj hz0
  have q1 : ∀ a k, gi (CL (CL (CL s 109 163 0 24) 147 167 0 10) 148 168 0 8) a k = if a = 148 then (if 0 ≤ k ∧ k < 8 then gi s 168 k else gi s 148 k) else if a = 147 then (if 0 ≤ k ∧ k < 10 then gi s 167 k else gi s 147 k) else if a = 109 then (if 0 ≤ k ∧ k < 24 then gi s 163 k else gi s 109 k) else gi s a k := fun a k => by
    simp only [gi_CL]; simp
  refine ⟨fun k hk => ?_, fun k hk => ?_, fun k hk => ?_, fun k hk => ?_, fun a k ha => ?_⟩
  · obtain ⟨d0, d1, d2, d3, d4, d5, d6, d7, d8, d9⟩ := c1 k hk
    refine ⟨?_, ?_, ?_, ?_, ?_, ?_, ?_, ?_, ?_, ?_⟩ <;> (rw [q1]; simp)
    · rw [d0]; exact g0 _ _ (by decide)
    · rw [d1]; exact g0 _ _ (by decide)
    · rw [d2]; exact g0 _ _ (by decide)
    · rw [d3]; exact g0 _ _ (by decide)
    · rw [d4]; exact g0 _ _ (by decide)
    · rw [d5]; exact g0 _ _ (by decide)
    · rw [d6]; exact g0 _ _ (by decide)
    · rw [d7]; exact g0 _ _ (by decide)
    · rw [d8]; exact g0 _ _ (by decide)
    · rw [d9]; exact g0 _ _ (by decide)
  · rw [q1]; simp [hk]; rw [c2 _ _ (by decide)]; exact g0 _ _ (by decide)
  · rw [q1]; simp [hk]; rw [c2 _ _ (by decide)]; exact g0 _ _ (by decide)
  · rw [q1]; simp [hk]; rw [c2 _ _ (by decide)]; exact g0 _ _ (by decide)
  · rw [q1, if_neg (fun e => ha (by omega)), if_neg (fun e => ha (by omega)), if_neg (fun e => ha (by omega)), c2 _ _ (fun e => ha (by omega))]; exact g0 _ _ (fun e => ha (by omega))
