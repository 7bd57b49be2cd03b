/-! what the class answers: on, done -/
theorem noSurj : ∀ (n : Nat) (f : Nat → Nat), ¬ ∀ m, m < n + 1 → ∃ k, k < n ∧ f k = m := by
  intro n
  induction n with
  | zero => intro f h; obtain ⟨k, hk, -⟩ := h 0 (by decide); exact absurd hk (Nat.not_lt_zero k)
  | succ n ih =>
    intro f h
    obtain ⟨k0, h0, e0⟩ := h (n + 1) (by omega)
    refine ih (fun k => if k < k0 then f k else f (k + 1)) (fun m hm => ?_)
    obtain ⟨k, hk, e⟩ := h m (by omega)
    have ne : k ≠ k0 := fun z => by subst z; omega
    by_cases c : k < k0
    · exact ⟨k, by omega, by show (if k < k0 then f k else f (k + 1)) = m; rw [if_pos c]; exact e⟩
    · refine ⟨k - 1, by omega, ?_⟩
      show (if k - 1 < k0 then f (k - 1) else f (k - 1 + 1)) = m
      rw [if_neg (by omega), show k - 1 + 1 = k from by omega]; exact e
theorem surj_inj {n : Nat} {f : Nat → Nat} (h : ∀ m, m < n → ∃ k, k < n ∧ f k = m) {p q : Nat} (hp : p < n) (hq : q < n) (e : f p = f q) : p = q := by
  by_cases ne : p = q
  · exact ne
  exfalso
  obtain ⟨n, rfl⟩ : ∃ i, n = i + 1 := ⟨n - 1, by omega⟩
  refine noSurj n (fun k => if k < q then f k else f (k + 1)) (fun m hm => ?_)
  obtain ⟨k, hk, e2⟩ := h m hm
  have go : ∀ k, k < n + 1 → k ≠ q → f k = m → ∃ i, i < n ∧ (if i < q then f i else f (i + 1)) = m := by
    intro k hk hkq e
    by_cases c : k < q
    · exact ⟨k, by omega, by rw [if_pos c]; exact e⟩
    · refine ⟨k - 1, by omega, ?_⟩
      rw [if_neg (by omega), show k - 1 + 1 = k from by omega]; exact e
  by_cases c : k = q
  · exact go p hp ne (by rw [e, ← c]; exact e2)
  · exact go k hk c e2
noncomputable def SInj (S : Stc) : Prop := ∀ p q, p < S_r S → q < S_r S → S_ln S p = S_ln S q → p = q
/-! bits -/
theorem bT1 : ∀ a, a < 64 → ∀ m, m < 6 → (Int32.ofNat a ||| ((1 : Int32) <<< (nI m &&& 31))) = Int32.ofNat (a ||| 2 ^ m) ∧ (a ||| 2 ^ m) < 64 := by decide +kernel
theorem bT2 : ∀ a, a < 64 → ∀ m, m < 6 → ((Int32.ofNat a >>> (nI m &&& 31)) &&& (1 : Int32)) = Int32.ofNat (a / 2 ^ m % 2) := by decide +kernel
theorem bT3 : ∀ a, a < 64 → ∀ m, m < 6 → ∀ j, j < 6 → (a ||| 2 ^ m) / 2 ^ j % 2 = if j = m then 1 else a / 2 ^ j % 2 := by decide +kernel
theorem hs_fold : ∀ (l : List Nat) (a : Nat), a < 64 → (∀ x ∈ l, x < 6) → ∃ b, b < 64 ∧ l.foldl (fun x m => x ||| ((1 : Int32) <<< ((nI m) &&& 31))) (Int32.ofNat a) = Int32.ofNat b ∧ ∀ j, j < 6 → b / 2 ^ j % 2 = if hc l j = 0 then a / 2 ^ j % 2 else 1 := by
  intro l
  induction l with
  | nil => intro a ha _; exact ⟨a, ha, rfl, fun j _ => by rw [if_pos (show hc [] j = 0 from rfl)]⟩
  | cons m l ih =>
    intro a ha hl
    have hm := hl m List.mem_cons_self
    obtain ⟨t1, t2⟩ := bT1 a ha m hm
    obtain ⟨b, b1, b2, b3⟩ := ih (a ||| 2 ^ m) t2 (fun x hx => hl x (List.mem_cons_of_mem _ hx))
    refine ⟨b, b1, by rw [List.foldl_cons, t1]; exact b2, fun j hj => ?_⟩
    have h0 := (hc_b (m := j) l).1
    rw [b3 j hj, bT3 a ha m hm j hj, show hc (m :: l) j = (if m = j then 1 else 0) + hc l j from rfl]
    by_cases e : m = j
    · subst e
      rw [if_pos rfl, if_pos rfl, if_neg (show ¬ (1 + hc l m = 0) by omega)]
      split <;> rfl
    · rw [if_neg (show ¬ j = m from fun z => e z.symm), if_neg e, show (0 : Int) + hc l j = hc l j from by omega]
theorem hs_bit {l : List Nat} {j : Nat} (hl : ∀ x ∈ l, x < 6) (h1 : hc l j ≤ 1) (hj : j < 6) : (((hset l) >>> (nI j &&& 31)) &&& (1 : Int32)).toInt = hc l j := by
  obtain ⟨b, b1, b2, b3⟩ := hs_fold l 0 (by decide) hl
  have e : hset l = Int32.ofNat b := b2
  have h0 := (hc_b (m := j) l).1
  rw [e, bT2 b b1 j hj, b3 j hj]
  by_cases c : hc l j = 0
  · rw [if_pos c, c, show 0 / 2 ^ j % 2 = 0 from by rw [Nat.zero_div]]; rfl
  · rw [if_neg c, show hc l j = 1 from by omega]; rfl
theorem aGos_hc {n : Nat} {S : Stc} {st : Nat → Int} (sb : SBd n S) (si : SInj S) : ∀ (k p : Nat) (l : List Nat) (D : Dyn), p + k = S_r S → (∀ x ∈ l, x < n) → (∀ m, hc l m ≤ 1) → (∀ q, p ≤ q → q < S_r S → hc l (S_ln S q) = 0) → (∀ x ∈ (aGos S st k p l D).1, x < n) ∧ ∀ m, hc (aGos S st k p l D).1 m ≤ 1 := by
  intro k
  induction k with
  | zero => intro p l D _ h1 h2 _; exact ⟨h1, h2⟩
  | succ k ih =>
    intro p l D hp h1 h2 h3
    show (∀ x ∈ (aGos S st k (p + 1) (if aHd S (st p) D p = true then l ++ [S_ln S p] else l) (aGo S (st p) D p)).1, x < n) ∧ ∀ m, hc (aGos S st k (p + 1) (if aHd S (st p) D p = true then l ++ [S_ln S p] else l) (aGo S (st p) D p)).1 m ≤ 1
    by_cases c : aHd S (st p) D p = true
    · rw [if_pos c]
      refine ih (p + 1) _ _ (by omega) (fun x hx => ?_) (fun m => ?_) (fun q hq hq2 => ?_)
      · rcases List.mem_append.mp hx with h | h
        · exact h1 x h
        · rw [List.mem_singleton.mp h]; exact sb.2.2.1 p (by omega)
      · rw [hc_ap]
        by_cases e : S_ln S p = m
        · have := h3 p (Nat.le_refl p) (by omega)
          rw [if_pos e, ← e, this]; decide
        · rw [if_neg e]; have := h2 m; omega
      · rw [hc_ap, if_neg (fun z => by have := si p q (by omega) hq2 z; omega), h3 q (by omega) hq2]; rfl
    · rw [if_neg c]
      exact ih (p + 1) _ _ (by omega) h1 h2 (fun q hq hq2 => h3 q (by omega) hq2)
theorem aMin_bit {n m : Nat} {S : Stc} {D : Dyn} (sb : SBd n S) (si : SInj S) (hm : m < n) : (((hset (aMin S D).1) >>> (nI m &&& 31)) &&& (1 : Int32)).toInt = hc (aMin S D).1 m := by
  have h := aGos_hc (st := aSt S D) sb si (S_r S) 0 [] D (by omega) (fun x hx => absurd hx List.not_mem_nil) (fun _ => by show (0 : Int) ≤ 1; decide) (fun _ _ _ => rfl)
  have n6 := sb.1
  exact hs_bit (fun x hx => by have := h.1 x hx; omega) (h.2 m) (by omega)
theorem hlLC {n m : Nat} {S : Stc} (sb : SBd n S) (si : SInj S) (hm : m < n) {x1 : Int32} (h1 : x1 = nI m) : ∀ (j N : Nat) (x2 x3 x4 : Int32) (b : Int) (D : Dyn) (K : Int) (σ : Sg), x2.toInt = x4.toInt + (j : Int) → j < N → x2.toInt ≤ 1000 → 0 ≤ x4.toInt → x3.toInt = b → 0 ≤ b ∧ b ≤ x4.toInt → K + (j : Int) ≤ 200000 → DBd n K D → CS 33 n S σ → CDy 33 n D σ →
    Rt (LF_X11_heldTimes N x1 x2 x3 x4 σ) (fun r σ' => r.toInt = b + aHel S j D m ∧ FXv σ σ') := by
  intro j
  induction j with
  | zero =>
    intro N x2 x3 x4 b D K σ h hN hx h4 h3 hb hK db cs cd
    obtain ⟨N, rfl⟩ : ∃ i, N = i + 1 := ⟨N - 1, by omega⟩
    show Rt (LB_X11_heldTimes_5 (LF_X11_heldTimes N) x1 x2 x3 x4 σ) (fun r σ' => r.toInt = b + 0 ∧ FXv σ σ')
    unfold LB_X11_heldTimes_5
    exact Rt_t (i_le (by omega)) (Rt_p ⟨by omega, FXv_rf⟩)
  | succ j ih =>
    intro N x2 x3 x4 b D K σ h hN hx h4 h3 hb hK db cs cd
    obtain ⟨N, rfl⟩ : ∃ i, N = i + 1 := ⟨N - 1, by omega⟩
    show Rt (LB_X11_heldTimes_5 (LF_X11_heldTimes N) x1 x2 x3 x4 σ) (fun r σ' => r.toInt = b + (hc (aMin S D).1 m + aHel S j (aMin S D).2 m) ∧ FXv σ σ')
    unfold LB_X11_heldTimes_5
    refine Rt_f (i_nle (by omega)) ?_
    refine Rt_fb (minC (c0 := 33) (by decide) sb db (by omega) cs cd) (fun r3 σ2 ⟨e1, e2, e3⟩ => ?_)
    have bt := aMin_bit (D := D) sb si hm
    have h0 := (hc_b (m := m) (aMin S D).1).1
    have h9 := (aGos_hc (st := aSt S D) sb si (S_r S) 0 [] D (by omega) (fun x hx => absurd hx List.not_mem_nil) (fun _ => by show (0 : Int) ≤ 1; decide) (fun _ _ _ => rfl)).2 m
    have h9 : hc (aMin S D).1 m ≤ 1 := h9
    rw [e1, h1]
    refine Rt_fl (fun v4 ev => Rt_fl (fun v5 ev5 => ?_))
    have v4i : v4.toInt = b + hc (aMin S D).1 m := by rw [ev, i_add (by omega) (by omega), bt, h3]
    have v5i : v5.toInt = x4.toInt + 1 := by rw [ev5, i_inc (by omega)]
    rw [← h1]
    exact Rt_w (ih N x2 v4 v5 _ _ (K + 1) σ2 (by omega) (by omega) hx (by omega) v4i (by omega) (by omega) (aMin_b sb db) (CS_m (by decide) e3 cs) e2) (fun r σ' q => ⟨by rw [q.1]; omega, FXv_tr (FXn_v e3) q.2⟩)
/-- the class's state, known -/
noncomputable def HCl (n : Nat) (K : Int) (S : Stc) (D : Dyn) (σ : Sg) : Prop := SBd n S ∧ DBd n K D ∧ K ≤ 20000 ∧ S_r S = n ∧ (∀ m, m < n → D_st D m ≤ 99) ∧ CS 1 n S σ ∧ CDy 1 n D σ
theorem HCl_v {n : Nat} {K : Int} {S : Stc} {D : Dyn} {σ σ' : Sg} (f : FXv σ σ') (h : HCl n K S D σ) : HCl n K S D σ' := ⟨h.1, h.2.1, h.2.2.1, h.2.2.2.1, h.2.2.2.2.1, CS_v f h.2.2.2.2.2.1, CDy_v f h.2.2.2.2.2.2⟩
theorem HCl_bec {n : Nat} {K : Int} {S : Stc} {D : Dyn} {σ : Sg} (h : HCl n K S D σ) : Ru (F_X1_becomes 33 1 σ) (fun σ' => CS 33 n S σ' ∧ CDy 33 n D σ' ∧ FXv σ σ') := becC h.1.1 h.1.2.1 h.2.2.2.2.2.1 h.2.2.2.2.2.2
theorem isMC {n : Nat} {a : Int32} {σ : Sg} (hn : (gi σ 1 1).toInt = (n : Int)) : F_X11_isMower a σ = (if 0 ≤ a.toInt ∧ a.toInt < (n : Int) then (1 : Int32) else 0, σ) := by rw [F_isMower, hn]
theorem i_sb {x c : Int32} {k : Int} (hc : c.toInt = k) (h1 : -2147483648 ≤ x.toInt - k) (h2 : x.toInt - k ≤ 2147483647) : (x - c).toInt = x.toInt - k := by rw [i_sub (by omega) (by omega), hc]
theorem on62C {n : Nat} {K : Int} {S : Stc} {D : Dyn} {σ : Sg} {a1 a2 x3 x4 : Int32} (h : HCl n K S D σ) (si : SInj S) (N : Nat) (c : (a2.toInt = 0 ∧ x3 = 0 ∧ x4 = 0) ∨ ((10 ≤ a2.toInt ∧ a2.toInt ≤ 9 + (n : Int)) ∧ x3 = 1 ∧ x4 = 0) ∨ ((20 ≤ a2.toInt ∧ a2.toInt ≤ 19 + (n : Int)) ∧ x3 = 0 ∧ x4 = 1)) :
    Rt (LF_X11_on (N + 1) 2 a1 a2 0 x3 x4 σ) (fun r _ => r.toInt = r_on n S D a1.toInt a2.toInt) := by
  obtain ⟨sb, db, hK, hr, h99, cs, cd⟩ := id h
  have n6 := sb.1
  show Rt (LB_X11_on_62 (LF_X11_on N) a1 a2 x3 x4 σ) _
  unfold LB_X11_on_62
  have cc : a2.toInt = 0 ∨ (10 ≤ a2.toInt ∧ a2.toInt ≤ 9 + (n : Int)) ∨ (20 ≤ a2.toInt ∧ a2.toInt ≤ 19 + (n : Int)) := by
    rcases c with z | z | z
    · exact Or.inl z.1
    · exact Or.inr (Or.inl z.1)
    · exact Or.inr (Or.inr z.1)
  by_cases d0 : a1.toInt < 0
  · refine Rt_t (i_lt0 d0) ?_
    show (-2 : Int32).toInt = r_on n S D a1.toInt a2.toInt
    unfold r_on
    rw [if_pos cc, if_neg (by omega)]; rfl
  refine Rt_f (i_nlt0 (by omega)) ?_
  by_cases d1 : a1.toInt ≤ 60
  · refine Rt_t (i_le (show _ ≤ (60 : Int) from d1)) ?_
    obtain ⟨j, hj⟩ : ∃ j : Nat, a1.toInt = (j : Int) := ⟨a1.toInt.toNat, by omega⟩
    have ev : r_on n S D a1.toInt a2.toInt = (if a2.toInt = 0 then tot n (aMins S j D) else if 20 ≤ a2.toInt then aHel S j D (a2.toInt - 20).toNat else D_at (aMins S j D) (a2.toInt - 10).toNat) := by
      unfold r_on
      rw [if_pos cc, if_pos (by omega), hj, show ((j : Int)).toNat = j from by omega]
    rw [ev]
    refine Rt_fs (HCl_bec h) (fun σ3 ⟨s3, d3, f3⟩ => ?_)
    rcases c with ⟨c1, c2, c3⟩ | ⟨c1, c2, c3⟩ | ⟨c1, c2, c3⟩
    · rw [if_pos c1]
      refine Rt_t c3 ?_
      refine Rt_fs (gosC9 (c0 := 33) (by decide) sb hj (by omega) (by omega) db s3 d3) (fun σ5 ⟨d5, f5⟩ => ?_)
      refine Rt_t c2 ?_
      obtain ⟨r, e, v⟩ := allC n6 (CS_m (by decide) f5 s3).1 (aMins_b sb j D K db) d5
      refine Rt_fe e ?_
      exact v
    · rw [if_neg (show ¬ a2.toInt = 0 by omega), if_neg (show ¬ 20 ≤ a2.toInt by omega)]
      refine Rt_t c3 ?_
      refine Rt_fs (gosC9 (c0 := 33) (by decide) sb hj (by omega) (by omega) db s3 d3) (fun σ5 ⟨d5, f5⟩ => ?_)
      refine Rt_f (by rw [c2]; decide) ?_
      have x1 : (a2 - (10 : Int32)).toInt = a2.toInt - 10 := i_sb rfl (by omega) (by omega)
      have ex := cl_eq (x := a2 - (10 : Int32)) (by omega)
      rw [show (a2 - (10 : Int32)).toNatClampNeg = (a2.toInt - 10).toNat from by omega]
      exact d5.2.1 _ (by omega)
    · rw [if_neg (show ¬ a2.toInt = 0 by omega), if_pos (show 20 ≤ a2.toInt by omega)]
      refine Rt_f (by rw [c3]; decide) ?_
      have x1 : (a2 - (20 : Int32)).toInt = a2.toInt - 20 := i_sb rfl (by omega) (by omega)
      have ex := cl_eq (x := a2 - (20 : Int32)) (by omega)
      have em : a2 - (20 : Int32) = nI (a2.toInt - 20).toNat := by rw [show (a2.toInt - 20).toNat = (a2 - (20 : Int32)).toNatClampNeg from by omega]; exact nI_ofI (by omega)
      have H : Rt (F_X11_heldTimes (a2 - (20 : Int32)) a1 σ3) (fun r _ => r.toInt = aHel S j D (a2.toInt - 20).toNat) := by
        unfold F_X11_heldTimes
        exact Rt_w (hlLC sb si (m := (a2.toInt - 20).toNat) (by omega) em j 90 a1 (0 : Int32) (0 : Int32) 0 D K σ3 (by rw [hj]; show _ = (0 : Int) + _; omega) (by omega) (by omega) (by decide) rfl (by decide) (by omega) db s3 d3) (fun r σ' q => q.1.trans (Int.zero_add _))
      refine Rt_fb H (fun r s e => ?_)
      exact e
  · refine Rt_f (i_nle (show (60 : Int) < _ by omega)) ?_
    show (-2 : Int32).toInt = r_on n S D a1.toInt a2.toInt
    unfold r_on
    rw [if_pos cc, if_neg (by omega)]; rfl
theorem onC {n : Nat} {K : Int} {S : Stc} {D : Dyn} {σ : Sg} {a1 a2 : Int32} (h : HCl n K S D σ) (si : SInj S) : Rt (F_X11_on a1 a2 σ) (fun r _ => r.toInt = r_on n S D a1.toInt a2.toInt) := by
  have n6 := h.1.1
  have hn := h.2.2.2.2.2.1.1
  have w1 := Int32.toInt_lt a2
  have none : ¬ (a2.toInt = 0 ∨ (10 ≤ a2.toInt ∧ a2.toInt ≤ 9 + (n : Int)) ∨ (20 ≤ a2.toInt ∧ a2.toInt ≤ 19 + (n : Int))) → (-1 : Int32).toInt = r_on n S D a1.toInt a2.toInt := fun c => by
    unfold r_on
    rw [if_neg c]; rfl
  unfold F_X11_on
  have L22 : ∀ z0 : Int32, ((z0 = 0 ∧ ¬ (10 ≤ a2.toInt ∧ a2.toInt ≤ 9 + (n : Int))) ∨ (z0 = 1 ∧ (10 ≤ a2.toInt ∧ a2.toInt ≤ 9 + (n : Int)))) → Rt (LF_X11_on 9 0 a1 a2 z0 0 0 σ) (fun r _ => r.toInt = r_on n S D a1.toInt a2.toInt) := by
    intro z0 hz
    show Rt (LB_X11_on_22 (LF_X11_on 8) a1 a2 z0 σ) _
    unfold LB_X11_on_22
    have L45 : ∀ z1 : Int32, ((z1 = 0 ∧ ¬ (20 ≤ a2.toInt ∧ a2.toInt ≤ 19 + (n : Int))) ∨ (z1 = 1 ∧ (20 ≤ a2.toInt ∧ a2.toInt ≤ 19 + (n : Int)))) → Rt (LF_X11_on 8 1 a1 a2 z1 z0 0 σ) (fun r _ => r.toInt = r_on n S D a1.toInt a2.toInt) := by
      intro z1 h1
      show Rt (LB_X11_on_45 (LF_X11_on 7) a1 a2 z0 z1 σ) _
      unfold LB_X11_on_45
      by_cases e0 : a2.toInt = 0
      · refine Rt_t (i_eq (show _ = (0 : Int) from e0)) ?_
        rcases hz with ⟨z, y⟩ | ⟨z, y⟩
        · rcases h1 with ⟨u, w⟩ | ⟨u, w⟩
          · exact on62C h si 6 (Or.inl ⟨e0, z, u⟩)
          · omega
        · omega
      refine Rt_f (i_ne (show _ ≠ (0 : Int) from e0)) ?_
      rcases hz with ⟨z, y⟩ | ⟨z, y⟩
      · refine Rt_t z ?_
        rcases h1 with ⟨u, w⟩ | ⟨u, w⟩
        · refine Rt_t u ?_
          exact none (by rintro (q | q | q); exact e0 q; exact y q; exact w q)
        · refine Rt_f (by rw [u]; decide) ?_
          exact on62C h si 6 (Or.inr (Or.inr ⟨w, z, u⟩))
      · refine Rt_f (by rw [z]; decide) ?_
        rcases h1 with ⟨u, w⟩ | ⟨u, w⟩
        · exact on62C h si 6 (Or.inr (Or.inl ⟨y, z, u⟩))
        · omega
    by_cases d : a2.toInt < 20
    · exact Rt_t (i_lt (show _ < (20 : Int) from d)) (L45 0 (Or.inl ⟨rfl, by omega⟩))
    refine Rt_f (i_nlt (show (20 : Int) ≤ _ by omega)) ?_
    have x1 : (a2 - (20 : Int32)).toInt = a2.toInt - 20 := i_sb rfl (by omega) (by omega)
    rw [isMC hn, fb_e]
    by_cases e : 0 ≤ (a2 - (20 : Int32)).toInt ∧ (a2 - (20 : Int32)).toInt < (n : Int)
    · rw [if_pos e]; exact Rt_f (by decide) (L45 1 (Or.inr ⟨rfl, by omega⟩))
    · rw [if_neg e]; exact Rt_t rfl (L45 0 (Or.inl ⟨rfl, by omega⟩))
  by_cases d : a2.toInt < 10
  · exact Rt_t (i_lt (show _ < (10 : Int) from d)) (L22 0 (Or.inl ⟨rfl, by omega⟩))
  refine Rt_f (i_nlt (show (10 : Int) ≤ _ by omega)) ?_
  have x1 : (a2 - (10 : Int32)).toInt = a2.toInt - 10 := i_sb rfl (by omega) (by omega)
  rw [isMC hn, fb_e]
  by_cases e : 0 ≤ (a2 - (10 : Int32)).toInt ∧ (a2 - (10 : Int32)).toInt < (n : Int)
  · rw [if_pos e]; exact Rt_f (by decide) (L22 1 (Or.inr ⟨rfl, by omega⟩))
  · rw [if_neg e]; exact Rt_t rfl (L22 0 (Or.inl ⟨rfl, by omega⟩))
theorem donLpC {n : Nat} {S : Stc} (sb : SBd n S) : ∀ (j k N : Nat) (x : Int32) (D : Dyn) (K : Int) (σ : Sg), j + k = 121 → j < N → x.toInt = (k : Int) → K + (j : Int) ≤ 100000 → DBd n K D → CS 33 n S σ → CDy 33 n D σ →
    Rt (LF_X11_done N x σ) (fun r _ => r.toInt = r_done n S j k D) := by
  have n6 := sb.1
  intro j
  induction j with
  | zero =>
    intro k N x D K σ hj hN hx hK db cs cd
    obtain ⟨N, rfl⟩ : ∃ i, N = i + 1 := ⟨N - 1, by omega⟩
    show Rt (LB_X11_done_13 (LF_X11_done N) x σ) _
    unfold LB_X11_done_13
    refine Rt_t (i_lt (show (120 : Int) < _ by omega)) ?_
    exact (rfl : (-5 : Int32).toInt = -5)
  | succ j ih =>
    intro k N x D K σ hj hN hx hK db cs cd
    obtain ⟨N, rfl⟩ : ∃ i, N = i + 1 := ⟨N - 1, by omega⟩
    show Rt (LB_X11_done_13 (LF_X11_done N) x σ) (fun r _ => r.toInt = (if aDn (aLg (S_cl S)) (D_at D) n 0 = true then (k : Int) else r_done n S j (k + 1) (aMin S D).2))
    unfold LB_X11_done_13
    refine Rt_f (i_nlt (show _ ≤ (120 : Int) by omega)) ?_
    refine Rt_fe (donC n6 cs cd) ?_
    by_cases c : aDn (aLg (S_cl S)) (D_at D) n 0 = true
    · rw [c, if_pos rfl]
      refine Rt_f (by decide) ?_
      exact hx
    · rw [Bool.eq_false_iff.mpr c, if_neg (show ¬ (false = true) by decide)]
      refine Rt_t rfl ?_
      refine Rt_fb (minC (c0 := 33) (by decide) sb db (by omega) cs cd) (fun r6 σ5 ⟨_, d5, f5⟩ => ?_)
      refine Rt_fl (fun v6 e6 => ?_)
      exact ih (k + 1) N v6 (aMin S D).2 (K + 1) σ5 (by omega) (by omega) (by rw [e6, i_inc (by omega)]; omega) (by omega) (aMin_b sb db) (CS_m (by decide) f5 cs) d5
theorem doneC {n : Nat} {K : Int} {S : Stc} {D : Dyn} {σ : Sg} (h : HCl n K S D σ) : Rt (F_X11_done σ) (fun r _ => r.toInt = r_done n S 121 0 D) := by
  unfold F_X11_done
  exact Rt_fs (HCl_bec h) (fun σ1 ⟨s1, d1, _⟩ => donLpC h.1 121 0 200 (0 : Int32) D K σ1 rfl (by decide) rfl (by have := h.2.2.1; omega) h.2.1 s1 d1)
