/-! a minute in the model -/
noncomputable def MT (n : Nat) (S : Stc) (σ : Sg) : Prop :=
  (gi σ 74 2).toInt = (S_r S : Int) ∧ (∀ p, p < S_r S → (gi σ 110 p).toInt = (S_ln S p : Int))
  ∧ (∀ m, m < n → (gi σ 103 m).toInt = S_kn S m) ∧ (∀ m, m < n → (gi σ 104 m).toInt = S_vv S m) ∧ (∀ k, k < 24 → (gi σ 109 k).toInt = S_tl S k)
  ∧ MH σ (S_cl S) ∧ S_tr S = (lastW 3 1 (S_cl S) : Int)
  ∧ ((0 ≤ (gi σ 74 28).toInt ∧ S_gp S = (gi σ 74 28).toInt) ∨ ((gi σ 74 28).toInt < 0 ∧ S_gp S = (lastW 2 2 (S_cl S) : Int)))
noncomputable def MDy (n : Nat) (D : Dyn) (σ : Sg) : Prop := (gi σ 74 1).toInt = D_m D ∧ (∀ m, m < n → (gi σ 105 m).toInt = D_at D m) ∧ (∀ m, m < n → (gi σ 106 m).toInt = D_ed D m) ∧ (∀ m, m < n → (gi σ 107 m).toInt = D_ti D m) ∧ (∀ m, m < n → (gi σ 108 m).toInt = D_st D m)
theorem MT_eq {n : Nat} {S : Stc} {σ σ' : Sg} (e : ∀ id k, (id = 74 ∧ (k = 2 ∨ k = 12 ∨ k = 28)) ∨ id = 103 ∨ id = 104 ∨ id = 109 ∨ id = 110 ∨ (117 ≤ id ∧ id ≤ 122) → gi σ' id k = gi σ id k) (h : MT n S σ) : MT n S σ' := by
  obtain ⟨h2, h3, h4, h5, h6, h7, h8, h9⟩ := h
  refine ⟨by rw [e 74 2 (by omega)]; exact h2, fun p hp => by rw [e 110 p (by omega)]; exact h3 p hp, fun m hm => by rw [e 103 m (by omega)]; exact h4 m hm, fun m hm => by rw [e 104 m (by omega)]; exact h5 m hm, fun k hk => by rw [e 109 k (by omega)]; exact h6 k hk, MH_eq (e 74 12 (by omega)) (fun id k a b => e id k (by omega)) h7, h8, by rw [e 74 28 (by omega)]; exact h9⟩
theorem MDy_eq {n : Nat} {D : Dyn} {σ σ' : Sg} (e : ∀ id k, (id = 74 ∧ k = 1) ∨ (105 ≤ id ∧ id ≤ 108) → gi σ' id k = gi σ id k) (h : MDy n D σ) : MDy n D σ' := by
  obtain ⟨h1, h2, h3, h4, h5⟩ := h
  exact ⟨by rw [e 74 1 (by omega)]; exact h1, fun m hm => by rw [e 105 m (by omega)]; exact h2 m hm, fun m hm => by rw [e 106 m (by omega)]; exact h3 m hm, fun m hm => by rw [e 107 m (by omega)]; exact h4 m hm, fun m hm => by rw [e 108 m (by omega)]; exact h5 m hm⟩
/-- frames: the pile and the place seen; and strides; the moving rows; all of a minute -/
noncomputable def FXa (σ σ' : Sg) : Prop := FX (fun id => id = 129) (fun id k => id = 74 ∧ k = 30) σ σ'
noncomputable def FXd (n : Nat) (σ σ' : Sg) : Prop := FX (fun _ => False) (fun id k => 105 ≤ id ∧ id ≤ 108 ∧ k < n) σ σ'
noncomputable def FXq (n : Nat) (σ σ' : Sg) : Prop := FX (fun id => id = 129 ∨ id = 131 ∨ id = 132) (fun id k => (id = 74 ∧ (k = 1 ∨ k = 30)) ∨ (105 ≤ id ∧ id ≤ 108 ∧ k < n)) σ σ'
theorem FXq_rf {n : Nat} {σ : Sg} : FXq n σ σ := FX_rf
theorem FXq_tr {n : Nat} {σ σ1 σ2 : Sg} (f : FXq n σ σ1) (g : FXq n σ1 σ2) : FXq n σ σ2 := FX_tr f g (fun _ h => h) (fun _ _ h => Or.inr h)
theorem FXa_q {n : Nat} {σ σ1 : Sg} (f : FXa σ σ1) : FXq n σ σ1 := FX_tr FX_rf f (fun _ h => Or.inl h) (fun _ _ h => Or.inr (Or.inl ⟨h.1, Or.inr h.2⟩))
theorem FXd_q {n : Nat} {σ σ1 : Sg} (f : FXd n σ σ1) : FXq n σ σ1 := FX_tr FX_rf f (fun _ h => h.elim) (fun _ _ h => Or.inr (Or.inr h))
theorem FXa_i {σ σ1 : Sg} (f : FXa σ σ1) {id k : Nat} (h : id ≠ 129 ∧ (id ≠ 74 ∨ k ≠ 30)) : gi σ1 id k = gi σ id k := FX_i f (fun z => by (try dsimp only at z); omega) (fun z => by (try dsimp only at z); omega)
theorem FXd_i {n : Nat} {σ σ1 : Sg} (f : FXd n σ σ1) {id k : Nat} (h : id < 105 ∨ 108 < id ∨ n ≤ k) : gi σ1 id k = gi σ id k := FX_i f (fun z => z) (fun z => by (try dsimp only at z); omega)
theorem FXq_i {n : Nat} {σ σ1 : Sg} (f : FXq n σ σ1) {id k : Nat} (h : (id < 105 ∨ 108 < id ∨ n ≤ k) ∧ id ≠ 129 ∧ id ≠ 131 ∧ id ≠ 132 ∧ (id ≠ 74 ∨ (k ≠ 1 ∧ k ≠ 30))) : gi σ1 id k = gi σ id k := FX_i f (fun z => by (try dsimp only at z); omega) (fun z => by (try dsimp only at z); omega)
theorem MT_q {n n' : Nat} {S : Stc} {σ σ1 : Sg} (f : FXq n' σ σ1) (h : MT n S σ) : MT n S σ1 := MT_eq (fun id k a => FXq_i f (by omega)) h
theorem MDy_a {n : Nat} {D : Dyn} {σ σ1 : Sg} (f : FXa σ σ1) (h : MDy n D σ) : MDy n D σ1 := MDy_eq (fun id k a => FXa_i f (by omega)) h
theorem lastLM {w d B : Nat} {x1 : Int32} {cl : List Cls} {σ : Sg} (hl : cl.length ≤ 10) (hT : (toksOf cl).length ≤ 100) (h1 : x1.toInt = (w : Int)) (h : MH σ cl) (hB : bgn σ = B) :
    ∀ (l pre : List Cls) (n : Nat) (x3 x4 : Int32), cl = pre ++ l → x3.toInt = (lastW w d pre : Int) → x4.toInt = (B : Int) + (pre.length : Int) → l.length < n →
      ∃ r, LF_X12_lastOf n x1 x3 x4 σ = (r, σ) ∧ r.toInt = (lastW w d cl : Int) := by
  obtain ⟨r1, r2, b1, b2, b3, b4, b5, b6⟩ := MH_beg h hl hT
  rw [hB] at b4 b5 b6
  intro l
  induction l with
  | nil =>
    intro pre n x3 x4 e h3 h4 hn
    rw [List.append_nil] at e
    obtain ⟨n, rfl⟩ : ∃ k, n = k + 1 := ⟨n - 1, by omega⟩
    show ∃ r, LB_X12_lastOf_8 (LF_X12_lastOf n) x1 x3 x4 σ = (r, σ) ∧ _
    unfold LB_X12_lastOf_8
    rw [b2, fb_e, if_pos (show r2 ≤ x4 from i_le (by rw [e] at b4; omega))]
    exact ⟨x3, rfl, by rw [e]; exact h3⟩
  | cons c l ih =>
    intro pre n x3 x4 e h3 h4 hn
    rw [List.length_cons] at hn
    obtain ⟨n, rfl⟩ : ∃ k, n = k + 1 := ⟨n - 1, by omega⟩
    have hg : cl[pre.length]? = some c := by rw [e]; exact get_pc
    obtain ⟨g1, g2, -⟩ := b6 _ _ hg
    have hlen : cl.length = pre.length + (l.length + 1) := by rw [e, List.length_append]; rfl
    have ec := cl_eq (x := x4) (by omega)
    have ek : x4.toNatClampNeg = B + pre.length := by omega
    have t9 : (x4 + (1 : Int32)).toInt = x4.toInt + 1 := i_add (y := (1 : Int32)) (by show (_ : Int) ≤ x4.toInt + 1; omega) (by show x4.toInt + 1 ≤ (_ : Int); omega)
    have hpl : ((pre ++ [c]).length : Int) = (pre.length : Int) + 1 := by rw [List.length_append]; show ((pre.length + 1 : Nat) : Int) = _; omega
    show ∃ r, LB_X12_lastOf_8 (LF_X12_lastOf n) x1 x3 x4 σ = (r, σ) ∧ _
    unfold LB_X12_lastOf_8
    rw [b2, fb_e, if_neg (show ¬ r2 ≤ x4 from i_nle (by omega)), ek]
    have la := lastW_ap (w := w) (d := d) (cl := pre) (c := c)
    by_cases q : c.1 = w
    · rw [if_pos q] at la
      rw [if_pos (show gi σ 118 (B + pre.length) = x1 from i_eq (by omega)), fl_e, fl_e]
      exact ih (pre ++ [c]) n _ _ (by rw [e, List.append_assoc]; rfl) (by rw [la]; exact g2) (by rw [t9, hpl]; omega) (by omega)
    · rw [if_neg q] at la
      rw [if_neg (show ¬ gi σ 118 (B + pre.length) = x1 from i_ne (by omega)), fl_e]
      exact ih (pre ++ [c]) n _ _ (by rw [e, List.append_assoc]; rfl) (by rw [la]; exact h3) (by rw [t9, hpl]; omega) (by omega)
theorem lastM {w d : Nat} {x1 x2 : Int32} {cl : List Cls} {σ : Sg} (hl : cl.length ≤ 10) (hT : (toksOf cl).length ≤ 100) (h1 : x1.toInt = (w : Int)) (h2 : x2.toInt = (d : Int)) (h : MH σ cl) : ∃ r, F_X12_lastOf x1 x2 σ = (r, σ) ∧ r.toInt = (lastW w d cl : Int) := by
  obtain ⟨r1, r2, b1, b2, b3, b4, b5, b6⟩ := MH_beg h hl hT
  unfold F_X12_lastOf
  rw [b1, fb_e]
  exact lastLM (d := d) hl hT h1 h rfl cl [] 90 x2 r1 rfl (by rw [h2]; rfl) (by rw [b3]; show _ = (bgn σ : Int) + ((0 : Nat) : Int); omega) (by omega)
theorem gapM {n : Nat} {S : Stc} {σ : Sg} (sb : SBd n S) (hs : MT n S σ) : ∃ r, F_X12_gap σ = (r, σ) ∧ r.toInt = S_gp S := by
  obtain ⟨-, -, -, -, -, h7, -, h9⟩ := hs
  obtain ⟨-, -, -, -, -, -, -, -, cl10, tk⟩ := sb
  unfold F_X12_gap
  rcases h9 with ⟨a, b⟩ | ⟨a, b⟩
  · rw [if_pos (i_le (a := (0 : Int32)) (b := gi σ 74 28) a)]; exact ⟨_, rfl, b.symm⟩
  · obtain ⟨r, l1, l2⟩ := lastM (w := 2) (d := 2) (x1 := (2 : Int32)) (x2 := (2 : Int32)) cl10 tk rfl rfl h7
    rw [if_neg (i_nle (a := (0 : Int32)) (b := gi σ 74 28) a), l1, fb_e]
    exact ⟨r, rfl, by rw [b]; exact l2⟩
theorem mst {x y : Int32} {a b : Int} {σ : Sg} (h : x.toInt = a) (g : y.toInt = b) : ∃ r, F_X12_most x y σ = (r, σ) ∧ r.toInt = (if a ≤ b then b else a) := by
  unfold F_X12_most
  by_cases q : a ≤ b
  · rw [if_pos (i_le (by omega)), if_pos q]; exact ⟨_, rfl, g⟩
  · rw [if_neg (i_nle (by omega)), if_neg q]; exact ⟨_, rfl, h⟩
theorem lst {x y : Int32} {a b : Int} {σ : Sg} (h : x.toInt = a) (g : y.toInt = b) : ∃ r, F_X12_least x y σ = (r, σ) ∧ r.toInt = mnI a b := by
  unfold F_X12_least mnI
  by_cases q : b ≤ a
  · rw [if_pos (i_le (by omega))]
    refine ⟨_, rfl, ?_⟩
    split <;> omega
  · rw [if_neg (i_nle (by omega)), if_neg (by omega)]; exact ⟨_, rfl, h⟩
theorem factM {n p : Nat} {K : Int} {S : Stc} {D : Dyn} {σ : Sg} {mm : Int32} (sb : SBd n S) (db : DBd n K D) (hs : MT n S σ) (hd : MDy n D σ) (hp : p < S_r S) (hm : mm.toInt = (S_ln S p : Int)) (h30 : (gi σ 74 30).toInt = (p : Int)) : FCM (aLt S D p) mm σ := by
  intro τ f x g hx hg
  obtain ⟨m, em⟩ : ∃ m, m = S_ln S p := ⟨_, rfl⟩
  have hmn : m < n := by rw [em]; exact sb.2.2.1 p hp
  rw [← em] at hm
  have ec := cl_eq (x := mm) (by omega)
  have ek : mm.toNatClampNeg = m := by omega
  obtain ⟨u1, u2, u3, u4⟩ := db.2 m hmn
  have um := db.1
  obtain ⟨d1, d2, d3, d4, d5⟩ := hd
  have a3 := d3 m hmn
  have a4 := d4 m hmn
  unfold F_X12_factOf aLt
  rw [ek, ← em, FXp_i f (by decide), FXp_i f (by decide), FXp_i f (by decide), FXp_i f (by decide), FXp_i f (by decide)]
  rcases (show g = 0 ∨ g = 1 ∨ g = 2 ∨ g = 3 ∨ g = 4 ∨ g = 5 by omega) with rfl | rfl | rfl | rfl | rfl | rfl
  · rw [if_pos (by omega)]; exact ⟨_, rfl, hm⟩
  · rw [if_neg (by omega), if_pos (by omega)]; exact ⟨_, rfl, hs.2.2.1 m hmn⟩
  · rw [if_neg (by omega), if_neg (by omega), if_pos (by omega)]; exact ⟨_, rfl, h30⟩
  · rw [if_neg (by omega), if_neg (by omega), if_neg (by omega), if_pos (by omega)]; exact ⟨_, rfl, a3⟩
  · rw [if_neg (by omega), if_neg (by omega), if_neg (by omega), if_neg (by omega), if_pos (by omega)]; exact ⟨_, rfl, by rw [i_div (k := 10) (by omega) (by decide) rfl, a4]; rfl⟩
  · rw [if_neg (by omega), if_neg (by omega), if_neg (by omega), if_neg (by omega), if_neg (by omega)]; exact ⟨_, rfl, by rw [i_rem (k := 10) (by omega) (by decide) rfl, d1]; rfl⟩
theorem pacM {n p : Nat} {K : Int} {S : Stc} {D : Dyn} {σ : Sg} {x : Int32} (sb : SBd n S) (db : DBd n K D) (hs : MT n S σ) (hd : MDy n D σ) (hx : x.toInt = (p : Int)) (hp : p < S_r S) :
    Rt (F_X12_paceAt x σ) (fun r σ' => r.toInt = aPc S D p ∧ FXa σ σ') := by
  have ex := cl_eq (x := x) (by omega)
  have ep : x.toNatClampNeg = p := by omega
  have l := hs.2.1 p hp
  unfold F_X12_paceAt
  refine Rt_fl (fun σ1 e1 => ?_)
  have f1 : FXa σ σ1 := by rw [e1]; exact FX_si FX_rf (Or.inr ⟨rfl, rfl⟩)
  have hs1 := MT_q (FXa_q (n := 0) f1) hs
  have hd1 := MDy_a f1 hd
  have h30 : (gi σ1 74 30).toInt = (p : Int) := by rw [e1, gi_si_eq]; exact hx
  have fc : FCM (aLt S D p) (gi σ1 110 p) σ1 := factM sb db hs1 hd1 hp (hs1.2.1 p hp) h30
  obtain ⟨-, -, -, -, -, -, -, pw, cl10, tk⟩ := sb
  obtain ⟨r1, r2, b1, b2, b3, b4, b5, b6⟩ := MH_beg hs1.2.2.2.2.2.1 cl10 tk
  refine Rt_fe b1 ?_
  obtain ⟨r, σ', j1, j2, j3⟩ := paceM (L := aLt S D p) (x1 := x) (mm := gi σ1 110 p) (B := bgn σ1) pw cl10 tk (S_cl S) [] 90 (6 : Int32) r1 6 σ1 rfl hs1.2.2.2.2.2.1 rfl (by rw [ep]) fc rfl (by decide) (by rw [b3]; show _ = (bgn σ1 : Int) + ((0 : Nat) : Int); omega) (by omega)
  rw [j1]
  exact Rt_p ⟨j2, FX_tr f1 j3 (fun _ h => h) (fun _ _ h => h.elim)⟩
theorem prsM {n p : Nat} {K : Int} {S : Stc} {D : Dyn} {σ : Sg} {x : Int32} (sb : SBd n S) (db : DBd n K D) (hs : MT n S σ) (hd : MDy n D σ) (hx : x.toInt = (p : Int)) (hp : p < S_r S) : F_X12_isPressed x σ = (if aPr S D p = true then 1 else 0, σ) := by
  obtain ⟨g, hg, gt⟩ := gapM sb hs
  have ex := cl_eq (x := x) (by omega)
  have ep : x.toNatClampNeg = p := by omega
  obtain ⟨n6, rn, lnb, -, -, gb, -⟩ := sb
  obtain ⟨s2, s3, -⟩ := hs
  obtain ⟨d1, d2, -⟩ := hd
  have x1 : (x + (1 : Int32)).toInt = x.toInt + 1 := i_add (y := (1 : Int32)) (by show (_ : Int) ≤ x.toInt + 1; omega) (by show x.toInt + 1 ≤ (_ : Int); omega)
  have ex1 := cl_eq (x := x + (1 : Int32)) (by omega)
  unfold F_X12_isPressed
  by_cases q : p + 1 < S_r S
  · have l0 := s3 p hp
    have l1 := s3 (p + 1) q
    have m0 := lnb p hp
    have m1 := lnb (p + 1) q
    have e0 : (gi σ 110 p).toNatClampNeg = S_ln S p := by have := cl_eq (x := gi σ 110 p) (by omega); omega
    have e1 : (gi σ 110 (p + 1)).toNatClampNeg = S_ln S (p + 1) := by have := cl_eq (x := gi σ 110 (p + 1)) (by omega); omega
    have a0 := d2 _ m0
    have a1 := d2 _ m1
    have b0 := (db.2 _ m0).1
    have b1 := (db.2 _ m1).1
    rw [if_neg (i_nle (by omega)), hg, fb_e, ep, show (x + (1 : Int32)).toNatClampNeg = p + 1 from by omega, e0, e1]
    have g3 : (g + (3 : Int32)).toInt = g.toInt + 3 := i_add (y := (3 : Int32)) (by show (_ : Int) ≤ g.toInt + 3; omega) (by show g.toInt + 3 ≤ (_ : Int); omega)
    have df : (gi σ 105 (S_ln S p) - gi σ 105 (S_ln S (p + 1))).toInt = D_at D (S_ln S p) - D_at D (S_ln S (p + 1)) := by rw [i_sub (by omega) (by omega), a0, a1]
    unfold aPr
    by_cases q2 : D_at D (S_ln S p) - D_at D (S_ln S (p + 1)) < S_gp S + 3
    · rw [if_neg (i_nle (by omega)), decide_eq_true (show _ ∧ _ from ⟨q, q2⟩), if_pos rfl]
    · rw [if_pos (i_le (by omega)), decide_eq_false (fun h => q2 h.2), if_neg (by decide)]
  · unfold aPr
    rw [if_pos (i_le (by omega)), decide_eq_false (fun h => q h.1), if_neg (by decide)]
theorem pos0_e {x : Int} (h : 0 ≤ x) : pos0 x = x := by unfold pos0; split <;> omega
set_option maxHeartbeats 4000000 in
theorem strM {n p m : Nat} {K : Int} {S : Stc} {D : Dyn} {σ : Sg} {r x y : Int32} (sb : SBd n S) (db : DBd n K D) (hs : MT n S σ) (hd : MDy n D σ) (hx : x.toInt = (p : Int)) (hp : p < S_r S) (em : m = S_ln S p) (hy : y.toInt = (m : Int)) (hr : r.toInt = aPc S D p) : ∃ q, F_X12_strideOf x y r σ = (q, σ) ∧ pos0 q.toInt = aRw S D p := by
  have pb := aPc_b (D := D) (p := p) sb
  have plb := aPl_b sb db hp
  have hab := aHa_b sb db hp
  have hm : m < n := by rw [em]; exact sb.2.2.1 p hp
  have n6 := sb.1
  obtain ⟨u1, u2, u3, u4⟩ := db.2 m hm
  have um := db.1
  obtain ⟨kb, vb⟩ := sb.2.2.2.1 m hm
  have t3 := hd.2.2.1 m hm
  have t4 := hd.2.2.2.1 m hm
  have tk := hs.2.2.1 m hm
  have tv := hs.2.2.2.1 m hm
  have ec := cl_eq (x := y) (by omega)
  have ek : y.toNatClampNeg = m := by omega
  have dv : (gi σ 107 m / (20 : Int32)).toInt = D_ti D m / 20 := by rw [i_div (k := 20) (by omega) (by decide) rfl, t4]
  obtain ⟨q4, h4, v4⟩ := most0 (σ := σ) (show (r - gi σ 107 m / (20 : Int32)).toInt = aPc S D p - D_ti D m / 20 from by rw [i_sub (by omega) (by omega), hr, dv])
  replace v4 : q4.toInt = aPl S D p := by rw [v4, em]; rfl
  have X3 : ∃ q, F_X12_hasty y q4 σ = (q, σ) ∧ q.toInt = aHa S D p := by
    unfold F_X12_hasty aHa
    rw [ek, ← em]
    by_cases q : D_ed D m ≤ 5
    · rw [if_pos (i_le (show _ ≤ (5 : Int) by omega)), if_pos q]
      exact ⟨_, rfl, v4⟩
    · rw [if_neg (i_nle (show (5 : Int) < _ by omega)), if_neg q]
      exact ⟨_, rfl, by rw [i_add (by omega) (by omega), v4, tv]⟩
  unfold F_X12_strideOf
  rw [ek, h4, fb_e, tk]
  unfold aRw
  rw [← em]
  by_cases k1 : S_kn S m = 1
  · rw [if_pos k1, if_pos k1]; exact ⟨_, rfl, by rw [hr]; exact pos0_e pb.1⟩
  rw [if_neg k1, if_neg k1]
  by_cases k2 : S_kn S m = 2
  · rw [if_pos k2, if_pos k2]
    obtain ⟨q, h, v⟩ := X3
    rw [h, fb_e]
    exact ⟨_, rfl, by rw [v]; exact pos0_e hab.1⟩
  rw [if_neg k2, if_neg k2]
  by_cases k3 : S_kn S m = 3
  · rw [if_pos k3, if_pos k3]
    exact ⟨_, rfl, by rw [i_div (k := 2) (by omega) (by decide) rfl, v4]; exact pos0_e (by omega)⟩
  rw [if_neg k3, if_neg k3]
  by_cases k4 : S_kn S m = 4
  · rw [if_pos k4, if_pos k4]
    have d3 : (gi σ 104 m / (3 : Int32)).toInt = S_vv S m / 3 := by rw [i_div (k := 3) (by omega) (by decide) rfl, tv]
    exact ⟨_, rfl, by rw [i_sub (by omega) (by omega), hr, d3]⟩
  rw [if_neg k4, if_neg k4]
  by_cases k5 : S_kn S m = 5
  · rw [if_pos k5, if_pos k5]
    obtain ⟨q3, h3, v3⟩ := X3
    rw [h3, fb_e, prsM sb db hs hd hx hp, fb_e]
    by_cases q : aPr S D p = true
    · rw [if_pos q, if_pos q, if_neg (show ¬ (1 : Int32) = 0 by decide)]
      exact ⟨_, rfl, by rw [i_add (y := (2 : Int32)) (by show (_ : Int) ≤ q3.toInt + 2; omega) (by show q3.toInt + 2 ≤ (_ : Int); omega), v3]; exact pos0_e (show 0 ≤ _ + (2 : Int) by omega)⟩
    · rw [if_neg q, if_neg q, if_pos rfl]
      exact ⟨_, rfl, by rw [i_add (y := (0 : Int32)) (by show (_ : Int) ≤ q3.toInt + 0; omega) (by show q3.toInt + 0 ≤ (_ : Int); omega), v3]; show pos0 (_ + (0 : Int)) = _; rw [Int.add_zero]; exact pos0_e hab.1⟩
  rw [if_neg k5, if_neg k5]
  by_cases k6 : S_kn S m = 6
  · rw [if_pos k6, if_pos k6]
    have m9 := hd.1
    have md : (gi σ 74 1 - gi σ 74 1 / (4 : Int32) * (4 : Int32)).toInt = D_m D % 4 := by rw [i_rem (k := 4) (by omega) (by decide) rfl, m9]
    have m4 : ((4 : Int32) * y).toInt = 4 * y.toInt := i_mull rfl (by omega) (by omega)
    have ad : (((4 : Int32) * y) + (gi σ 74 1 - gi σ 74 1 / (4 : Int32) * (4 : Int32))).toInt = 4 * (m : Int) + D_m D % 4 := by rw [i_add (by omega) (by omega), m4, md, hy]
    have ec2 := cl_eq (x := ((4 : Int32) * y) + (gi σ 74 1 - gi σ 74 1 / (4 : Int32) * (4 : Int32))) (by omega)
    have tl := hs.2.2.2.2.1 (4 * m + (D_m D % 4).toNat) (by omega)
    have tb := sb.2.2.2.2.1 (4 * m + (D_m D % 4).toNat) (by omega)
    have hf : (q4 / (2 : Int32)).toInt = aPl S D p / 2 := by rw [i_div (k := 2) (by omega) (by decide) rfl, v4]
    rw [show (((4 : Int32) * y) + (gi σ 74 1 - gi σ 74 1 / (4 : Int32) * (4 : Int32))).toNatClampNeg = 4 * m + (D_m D % 4).toNat from by omega]
    exact ⟨_, rfl, by rw [i_add (by omega) (by omega), hf, tl]; exact pos0_e (by omega)⟩
  rw [if_neg k6, if_neg k6]
  exact ⟨_, rfl, by rw [v4]; exact pos0_e plb.1⟩
theorem strAtM {n p : Nat} {K : Int} {S : Stc} {D : Dyn} {σ : Sg} {x : Int32} (sb : SBd n S) (db : DBd n K D) (hs : MT n S σ) (hd : MDy n D σ) (hx : x.toInt = (p : Int)) (hp : p < S_r S) :
    Rt (F_X12_strideAt x σ) (fun r σ' => r.toInt = aSt S D p ∧ FXa σ σ') := by
  have ex := cl_eq (x := x) (by omega)
  have ep : x.toNatClampNeg = p := by omega
  obtain ⟨m, em⟩ : ∃ m, m = S_ln S p := ⟨_, rfl⟩
  have hm : m < n := by rw [em]; exact sb.2.2.1 p hp
  have l := hs.2.1 p hp
  have rb := aRw_b sb db hp
  unfold F_X12_strideAt
  rw [ep]
  refine Rt_fl (fun v2 e2 => ?_)
  have v2i : v2.toInt = (m : Int) := by rw [e2, l, em]
  have v2n : v2.toNatClampNeg = m := by have := cl_eq (x := v2) (by omega); omega
  refine Rt_fb (pacM sb db hs hd hx hp) (fun r4 σ3 h => ?_)
  obtain ⟨h1, f3⟩ := h
  have hs3 := MT_q (FXa_q (n := 0) f3) hs
  have hd3 := MDy_a f3 hd
  obtain ⟨q, j1, j2⟩ := strM sb db hs3 hd3 hx hp em v2i h1
  refine Rt_fe j1 ?_
  obtain ⟨q8, i1, i2⟩ := most0 (σ := σ3) (x := q) rfl
  refine Rt_fe i1 ?_
  rw [v2n]
  have e4 := hd3.2.2.1 m hm
  unfold aSt
  rw [← em]
  by_cases c : D_ed D m = 0
  · refine Rt_t (i_eq (by rw [e4, c]; rfl)) (Rt_p ⟨?_, f3⟩)
    rw [if_pos c, i_div (k := 2) (by omega) (by decide) rfl, i2, j2]
  · refine Rt_f (fun z => c (by rw [← e4, z]; rfl)) (Rt_p ⟨?_, f3⟩)
    rw [if_neg c, i2, j2]
noncomputable def MS (n : Nat) (S : Stc) (σ : Sg) : Prop := (gi σ 74 0).toInt = (n : Int) ∧ MT n S σ
theorem MS_eq {n : Nat} {S : Stc} {σ σ' : Sg} (e : ∀ id k, (id = 74 ∧ (k = 0 ∨ k = 2 ∨ k = 12 ∨ k = 28)) ∨ id = 103 ∨ id = 104 ∨ id = 109 ∨ id = 110 ∨ (117 ≤ id ∧ id ≤ 122) → gi σ' id k = gi σ id k) (h : MS n S σ) : MS n S σ' := ⟨by rw [e 74 0 (by omega)]; exact h.1, MT_eq (fun id k a => e id k (by omega)) h.2⟩
theorem MS_q {n n' : Nat} {S : Stc} {σ σ1 : Sg} (f : FXq n' σ σ1) (h : MS n S σ) : MS n S σ1 := MS_eq (fun id k a => FXq_i f (by omega)) h
