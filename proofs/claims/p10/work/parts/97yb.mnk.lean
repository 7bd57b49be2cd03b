/-! the minutes' numbers: how minute, whet, pause, set, row, mower, image, undo keep them -/
theorem aGo_st {n : Nat} {s : Int} {S : Stc} {D : Dyn} {p : Nat} {X : Int} (h : ∀ m, m < n → D_st D m ≤ X) : ∀ m, m < n → D_st (aGo S s D p) m ≤ X := by
  intro m hm
  unfold aGo
  split
  · show upi (D_st D) (S_ln S p) (D_st D (S_ln S p) - 1) m ≤ X
    by_cases e : m = S_ln S p
    · subst e; rw [upi_e]; have := h _ hm; omega
    · rw [upi_n e]; exact h m hm
  · split <;> exact h m hm
theorem aGos_st {n : Nat} {S : Stc} {st : Nat → Int} {X : Int} : ∀ (k p : Nat) (l : List Nat) (D : Dyn), (∀ m, m < n → D_st D m ≤ X) → ∀ m, m < n → D_st (aGos S st k p l D).2 m ≤ X := by
  intro k
  induction k with
  | zero => intro p l D h; exact h
  | succ k ih => intro p l D h; exact ih (p + 1) _ _ (aGo_st h)
theorem aMin_st {n : Nat} {S : Stc} {D : Dyn} {X : Int} (h : ∀ m, m < n → D_st D m ≤ X) : ∀ m, m < n → D_st (aMin S D).2 m ≤ X := aGos_st _ _ _ _ h
theorem pos0_le {x k : Int} (h : x ≤ k) (hk : 0 ≤ k) : pos0 x ≤ k := (pos0_b h hk).2
/-- both go from known numbers to the same -/
theorem MN_dy {n : Nat} {K : Int} {D : Dyn} {σ σ1 σ2 : Sg} (n6 : n ≤ 6) (hn : (n : Int) = (gi σ 1 1).toInt) (db : DBd n K D) (h99 : ∀ m, m < n → D_st D m ≤ 99) (f : FXn 1 n σ σ1) (c : CDy 1 n D σ1) (g : FXq n σ1 σ2) (m : MDy n D σ2) (q : MN σ) : MN σ2 := by
  obtain ⟨⟨b1, b2, b3, b4, b5, b6, b7⟩, bi, e1, e2, m2, m28, m11, m17⟩ := q
  have gg : ∀ id k, ¬ ((4 ≤ id ∧ id ≤ 7) ∧ k < n) → ¬ (id = 15 ∨ id = 16) → ¬ (id = 1 ∧ k = 9) → ¬ ((105 ≤ id ∧ id ≤ 108) ∧ k < n) → id ≠ 129 → id ≠ 131 → id ≠ 132 → ¬ (id = 74 ∧ (k = 1 ∨ k = 30)) → gi σ2 id k = gi σ id k := fun id k a1 a2 a3 a4 a5 a6 a7 a8 => by rw [FXq_i g (by omega), FXn_i f (by omega)]
  have cc : ∀ id k, id < 74 → gi σ2 id k = gi σ1 id k := fun id k a => FXq_i g (by omega)
  obtain ⟨d1, d2, d3, d4, d5⟩ := DBd_i.mp db
  obtain ⟨c1, c2, c3, c4, c5⟩ := c
  obtain ⟨k1, k2, k3, k4, k5⟩ := m
  have br : ∀ (a : Nat) (hi : Int) (v : Nat → Int), (105 ≤ a ∧ a ≤ 108) → BR σ a 6 hi → (∀ m, m < n → (gi σ2 a m).toInt = v m) → (∀ m, m < n → 0 ≤ v m ∧ v m ≤ hi) → BR σ2 a 6 hi := by
    intro a hi v ha hb hv hr k hk
    by_cases e : k < n
    · rw [hv k e]; exact hr k e
    · rw [gg a k (by omega) (by omega) (by omega) (by omega) (by omega) (by omega) (by omega) (by omega)]; exact hb k hk
  refine ⟨⟨BR_eq (fun k _ => gg 103 k (by omega) (by omega) (by omega) (by omega) (by omega) (by omega) (by omega) (by omega)) b1, BR_eq (fun k _ => gg 104 k (by omega) (by omega) (by omega) (by omega) (by omega) (by omega) (by omega) (by omega)) b2, br 105 _ _ (by omega) b3 k2 d2, br 106 _ _ (by omega) b4 k3 d3, br 107 _ _ (by omega) b5 k4 d4, br 108 _ _ (by omega) b6 k5 (fun m hm => ⟨(d5 m hm).1, h99 m hm⟩), BR_eq (fun k _ => gg 109 k (by omega) (by omega) (by omega) (by omega) (by omega) (by omega) (by omega) (by omega)) b7⟩, BIM_eq (fun id k a b c => gg id k (by omega) (by omega) (by omega) (by omega) (by omega) (by omega) (by omega) (by omega)) bi, ?_, EQN_eq (by rw [gg 17 1 (by omega) (by omega) (by omega) (by omega) (by omega) (by omega) (by omega) (by omega)]) (fun id k a => gg id k (by omega) (by omega) (by omega) (by omega) (by omega) (by omega) (by omega) (by omega)) e2, by rw [gg 74 2 (by omega) (by omega) (by omega) (by omega) (by omega) (by omega) (by omega) (by omega), gg 74 0 (by omega) (by omega) (by omega) (by omega) (by omega) (by omega) (by omega) (by omega)]; exact m2, by rw [gg 74 28 (by omega) (by omega) (by omega) (by omega) (by omega) (by omega) (by omega) (by omega)]; exact m28, by rw [gg 1 11 (by omega) (by omega) (by omega) (by omega) (by omega) (by omega) (by omega) (by omega)]; exact m11, by rw [gg 17 11 (by omega) (by omega) (by omega) (by omega) (by omega) (by omega) (by omega) (by omega)]; exact m17⟩
  intro m hm
  have e11 : gi σ2 1 1 = gi σ 1 1 := gg 1 1 (by omega) (by omega) (by omega) (by omega) (by omega) (by omega) (by omega) (by omega)
  rw [e11, ← hn]
  refine ⟨fun h => ?_, fun h => ?_⟩
  · have h : m < n := by omega
    exact ⟨i_eq (by rw [cc _ _ (by decide), c2 m h, k2 m h]), i_eq (by rw [cc _ _ (by decide), c3 m h, k3 m h]), i_eq (by rw [cc _ _ (by decide), c4 m h, k4 m h]), i_eq (by rw [cc _ _ (by decide), c5 m h, k5 m h])⟩
  · have := (e1 m hm).2 (by omega)
    rw [gg (1 + 3) m (by omega) (by omega) (by omega) (by omega) (by omega) (by omega) (by omega) (by omega), gg (1 + 5) m (by omega) (by omega) (by omega) (by omega) (by omega) (by omega) (by omega) (by omega), gg (1 + 6) m (by omega) (by omega) (by omega) (by omega) (by omega) (by omega) (by omega) (by omega)]
    exact this
theorem aGos_m {S : Stc} {st : Nat → Int} : ∀ (k p : Nat) (l : List Nat) (D : Dyn), D_m (aGos S st k p l D).2 = D_m D + 1 := by
  intro k
  induction k with
  | zero => intro p l D; rfl
  | succ k ih =>
    intro p l D
    have h := ih (p + 1) (if aHd S (st p) D p = true then l ++ [S_ln S p] else l) (aGo S (st p) D p)
    rw [aGo_m] at h
    exact h
theorem aMin_m {S : Stc} {D : Dyn} : D_m (aMin S D).2 = D_m D + 1 := aGos_m _ _ _ _
theorem MA_n {c0 n : Nat} {σ σ1 : Sg} (hc : c0 ≤ 33) (f : FXn c0 n σ σ1) : MA σ σ1 := fun id a b k => FXn_i f (by omega)
theorem MN_minute {V : Vx} {r1 r2 : Int32} {σ σ1 σ2 : Sg} (q : RELF σ) (mn : MN σ) (hI : INV V σ) (h1 : F_X11_minute σ = (r1, σ1)) (h2 : F_X12_minute σ1 = (r2, σ2)) : (MN σ2 ∧ r1 = r2) ∧ MNA (gi σ 1 9) (gi σ1 1 9) ∧ MNA (gi σ1 74 1) (gi σ2 74 1) := by
  obtain ⟨n, S, D, hn, hm, cs, cd, -⟩ := HX q mn hI
  obtain ⟨sb, db, hK, hr, h99, ms, md⟩ := id hm
  have e9 := cd.1
  have k9 := md.1
  have dm := db.1
  unfold F_X11_minute at h1
  unfold F_X12_minute at h2
  by_cases c : (gi σ 1 9).toInt < 9999
  · rw [if_pos (i_lt (show _ < (9999 : Int) from c))] at h1
    obtain ⟨a1, a2, a3⟩ := minC (c0 := 1) (by decide) sb db (by omega) cs cd
    have hm1 := HMo_ma (MA_n (by decide) a3) hm
    rw [show F_X1_goesMinute 1 σ = ((F_X1_goesMinute 1 σ).1, (F_X1_goesMinute 1 σ).2) from rfl, fb_e] at h1
    obtain ⟨rfl, rfl⟩ := Prod.mk.inj h1
    have n1 : (gi (F_X1_goesMinute 1 σ).2 74 1).toInt = D_m D := hm1.2.2.2.2.2.2.1
    rw [if_neg (i_ne (show _ ≠ (9999 : Int) by omega))] at h2
    obtain ⟨b1, b2, b3, -⟩ := minM sb db (by omega) hm1.2.2.2.2.2.1.2 hm1.2.2.2.2.2.2
    rw [show F_X12_goMinute (F_X1_goesMinute 1 σ).2 = ((F_X12_goMinute (F_X1_goesMinute 1 σ).2).1, (F_X12_goMinute (F_X1_goesMinute 1 σ).2).2) from rfl, fb_e] at h2
    obtain ⟨rfl, rfl⟩ := Prod.mk.inj h2
    have mm := aMin_m (S := S) (D := D)
    have u1 := a2.1
    have u2 := b2.1
    exact ⟨⟨MN_dy sb.1 hn (aMin_b sb db) (aMin_st h99) a3 a2 b3 b2 mn, a1.trans b1.symm⟩, ⟨fun h => by omega, fun h => by omega⟩, ⟨fun h => by omega, fun h => by omega⟩⟩
  · rw [if_neg (i_nlt (show (9999 : Int) ≤ _ by omega))] at h1
    obtain ⟨rfl, rfl⟩ := Prod.mk.inj h1
    rw [if_pos (i_eq (show _ = (9999 : Int) by omega))] at h2
    obtain ⟨rfl, rfl⟩ := Prod.mk.inj h2
    exact ⟨⟨mn, rfl⟩, ⟨fun h => rfl, fun h => by omega⟩, ⟨fun h => rfl, fun h => by omega⟩⟩
theorem MN_whet {V : Vx} {r1 r2 : Int32} {σ σ1 σ2 : Sg} (q : RELF σ) (mn : MN σ) (hI : INV V σ) (h1 : F_X11_whet σ = (r1, σ1)) (h2 : F_X12_whet σ1 = (r2, σ2)) : MN σ2 ∧ WHA r1 (gi σ 1 9) (gi σ1 1 9) ∧ WHA r2 (gi σ1 74 1) (gi σ2 74 1) := by
  obtain ⟨n, S, D, hn, hm, cs, cd, -⟩ := HX q mn hI
  obtain ⟨sb, db, hK, hr, h99, ms, md⟩ := id hm
  have e9 := cd.1
  have k9 := md.1
  have dm := db.1
  unfold F_X11_whet at h1
  unfold F_X12_whet at h2
  by_cases c : (gi σ 1 9).toInt < 9999
  · rw [if_pos (i_lt (show _ < (9999 : Int) from c))] at h1
    obtain ⟨a2, a3⟩ := whetC (c0 := 1) (by decide) sb db (by omega) cs cd
    have hm1 := HMo_ma (MA_n (by decide) a3) hm
    rw [fl_e] at h1
    obtain ⟨er1, rfl⟩ := Prod.mk.inj h1
    have n1 : (gi (F_X1_whetsAll 1 σ) 74 1).toInt = D_m D := hm1.2.2.2.2.2.2.1
    rw [if_neg (i_ne (show _ ≠ (9999 : Int) by omega)), fl_e] at h2
    obtain ⟨b2, b3⟩ := whetM sb db (by omega) hm1.2.2.2.2.2.1 hm1.2.2.2.2.2.2
    obtain ⟨er2, rfl⟩ := Prod.mk.inj h2
    have u1 : _ = D_m D + 1 := a2.1
    have u2 : _ = D_m D + 1 := b2.1
    have w1 := congrArg Int32.toInt er1
    have w2 := congrArg Int32.toInt er2
    exact ⟨MN_dy sb.1 hn (aWhe_b db) (fun m hm' => pos0_le (by have := h99 m hm'; omega) (by decide)) a3 a2 b3 b2 mn, ⟨fun h => by omega, fun h => ⟨by omega, by omega⟩⟩, ⟨fun h => by omega, fun h => ⟨by omega, by omega⟩⟩⟩
  · rw [if_neg (i_nlt (show (9999 : Int) ≤ _ by omega))] at h1
    obtain ⟨rfl, rfl⟩ := Prod.mk.inj h1
    rw [if_pos (i_eq (show _ = (9999 : Int) by omega))] at h2
    obtain ⟨rfl, rfl⟩ := Prod.mk.inj h2
    exact ⟨mn, ⟨fun h => ⟨rfl, rfl⟩, fun h => by omega⟩, ⟨fun h => ⟨rfl, rfl⟩, fun h => by omega⟩⟩
theorem MN_pause {V : Vx} {a r1 r2 : Int32} {σ σ1 σ2 : Sg} (q : RELF σ) (mn : MN σ) (hI : INV V σ) (h1 : F_X11_pause a σ = (r1, σ1)) (h2 : F_X12_pause a σ1 = (r2, σ2)) : MN σ2 ∧ PAA r1 a (gi σ 1 9) (gi σ1 1 9) ∧ PAA r2 a (gi σ1 74 1) (gi σ2 74 1) := by
  obtain ⟨n, S, D, hn, hm, cs, cd, -⟩ := HX q mn hI
  obtain ⟨sb, db, hK, hr, h99, ms, md⟩ := id hm
  have e9 := cd.1
  have k9 := md.1
  have dm := db.1
  unfold F_X11_pause at h1
  unfold F_X12_pause at h2
  rw [F_in, fb_e] at h2
  by_cases c0 : a.toInt < 1
  · rw [if_pos (i_lt (show _ < (1 : Int) from c0))] at h1
    obtain ⟨rfl, rfl⟩ := Prod.mk.inj h1
    rw [if_neg (show ¬ ((1 : Int32).toInt ≤ a.toInt ∧ a.toInt ≤ (60 : Int32).toInt) from fun z => by have : (1 : Int) ≤ a.toInt := z.1; omega), if_pos rfl] at h2
    obtain ⟨rfl, rfl⟩ := Prod.mk.inj h2
    exact ⟨mn, ⟨fun h => ⟨rfl, rfl⟩, fun h _ => by omega⟩, ⟨fun h => ⟨rfl, rfl⟩, fun h _ => by omega⟩⟩
  rw [if_neg (i_nlt (show (1 : Int) ≤ _ by omega))] at h1
  by_cases c1 : a.toInt ≤ 60
  · rw [if_pos (i_le (show _ ≤ (60 : Int) from c1))] at h1
    rw [if_pos (show (1 : Int32).toInt ≤ a.toInt ∧ a.toInt ≤ (60 : Int32).toInt from ⟨by show (1 : Int) ≤ _; omega, c1⟩), if_neg (show ¬ (1 : Int32) = 0 by decide)] at h2
    obtain ⟨j, hj⟩ : ∃ j : Nat, a.toInt = (j : Int) := ⟨a.toInt.toNat, by omega⟩
    have s9 : (gi σ 1 9 + a).toInt = D_m D + (j : Int) := by rw [i_add (by omega) (by omega), e9, hj]
    by_cases c : D_m D + (j : Int) ≤ 9999
    · rw [if_pos (i_le (show _ ≤ (9999 : Int) by omega)), fl_e] at h1
      obtain ⟨a2, a3⟩ := restC (c0 := 1) (by decide) sb db (by omega) hj (by omega) cs cd
      have hm1 := HMo_ma (MA_n (by decide) a3) hm
      obtain ⟨er1, rfl⟩ := Prod.mk.inj h1
      have n1 : (gi (F_X1_rests 1 a σ) 74 1).toInt = D_m D := hm1.2.2.2.2.2.2.1
      have t9 : (gi (F_X1_rests 1 a σ) 74 1 + a).toInt = D_m D + (j : Int) := by rw [i_add (by omega) (by omega), n1, hj]
      rw [if_pos (i_le (show _ ≤ (9999 : Int) by omega)), fl_e] at h2
      obtain ⟨b2, b3⟩ := pausM sb db (by omega) hj (by omega) hm1.2.2.2.2.2.1 hm1.2.2.2.2.2.2
      obtain ⟨er2, rfl⟩ := Prod.mk.inj h2
      have u1 : _ = D_m D + (j : Int) := a2.1
      have u2 : _ = D_m D + (j : Int) := b2.1
      have w1 := congrArg Int32.toInt er1
      have w2 := congrArg Int32.toInt er2
      exact ⟨MN_dy sb.1 hn (aPas_b db (by omega) (by omega)) (fun m hm' => pos0_le (by have := h99 m hm'; omega) (by decide)) a3 a2 b3 b2 mn, ⟨fun h => by omega, fun _ _ => ⟨fun h => by omega, fun h => ⟨by omega, by omega⟩⟩⟩, ⟨fun h => by omega, fun _ _ => ⟨fun h => by omega, fun h => ⟨by omega, by omega⟩⟩⟩⟩
    · rw [if_neg (i_nle (show (9999 : Int) < _ by omega))] at h1
      obtain ⟨rfl, rfl⟩ := Prod.mk.inj h1
      have t9 : (gi σ 74 1 + a).toInt = D_m D + (j : Int) := by rw [i_add (by omega) (by omega), k9, hj]
      rw [if_neg (i_nle (show (9999 : Int) < _ by omega))] at h2
      obtain ⟨rfl, rfl⟩ := Prod.mk.inj h2
      exact ⟨mn, ⟨fun h => by omega, fun _ _ => ⟨fun h => ⟨rfl, rfl⟩, fun h => by omega⟩⟩, ⟨fun h => by omega, fun _ _ => ⟨fun h => ⟨rfl, rfl⟩, fun h => by omega⟩⟩⟩
  · rw [if_neg (i_nle (show (60 : Int) < _ by omega))] at h1
    obtain ⟨rfl, rfl⟩ := Prod.mk.inj h1
    rw [if_neg (show ¬ ((1 : Int32).toInt ≤ a.toInt ∧ a.toInt ≤ (60 : Int32).toInt) from fun z => by have : a.toInt ≤ (60 : Int) := z.2; omega), if_pos rfl] at h2
    obtain ⟨rfl, rfl⟩ := Prod.mk.inj h2
    exact ⟨mn, ⟨fun h => ⟨rfl, rfl⟩, fun _ h => by omega⟩, ⟨fun h => ⟨rfl, rfl⟩, fun _ h => by omega⟩⟩
/-! set -/
noncomputable def slm (j : Nat) : Int := if j = 0 then 9999 else if j = 1 then 10 else 99
noncomputable def SETP (a n : Nat) (a1 a2 a3 : Int32) (σ : Sg) (r : Int32) (σ' : Sg) : Prop :=
  (∃ m j : Nat, a1.toInt = (m : Int) ∧ m < n ∧ a2.toInt = (j : Int) ∧ j < 4 ∧ (0 ≤ a3.toInt ∧ a3.toInt ≤ slm j) ∧ r = gi σ (a + j) m ∧ σ' = si σ (a + j) m a3)
  ∨ (σ' = σ ∧ ((¬ ((0 ≤ a1.toInt ∧ a1.toInt < (n : Int)) ∧ (0 ≤ a2.toInt ∧ a2.toInt ≤ 3)) ∧ r = (-1 : Int32)) ∨ (((0 ≤ a1.toInt ∧ a1.toInt < (n : Int)) ∧ (0 ≤ a2.toInt ∧ a2.toInt ≤ 3)) ∧ ¬ (0 ≤ a3.toInt ∧ a3.toInt ≤ slm a2.toInt.toNat) ∧ r = (-2 : Int32))))
theorem st4M {n m j : Nat} {a1 a2 a3 z : Int32} {σ : Sg} (h1 : a1.toInt = (m : Int)) (hm : m < n) (h2 : a2.toInt = (j : Int)) (hj : j < 4) (hz : z.toInt = slm j) : Rt (LF_X12_set 9 0 a1 a2 a3 z (0 : Int32) a3 0 σ) (SETP 105 n a1 a2 a3 σ) := by
  have ex := cl_eq (x := a1) (by omega)
  have ep : a1.toNatClampNeg = m := by omega
  show Rt (LB_X12_set_45 (LF_X12_set 8) a1 a2 a3 z (0 : Int32) a3 σ) _
  unfold LB_X12_set_45
  refine Rt_fe F_in ?_
  have z0 : (0 : Int32).toInt = 0 := rfl
  have j0 : (a2 = 0) ↔ j = 0 := ⟨fun e => by rw [e] at h2; omega, fun e => i_eq (show _ = (0 : Int) by omega)⟩
  have j1 : (a2 = (1 : Int32)) ↔ j = 1 := ⟨fun e => by rw [e] at h2; have z1 : (1 : Int32).toInt = 1 := rfl; omega, fun e => i_eq (show _ = (1 : Int) by omega)⟩
  have j2 : (a2 = (2 : Int32)) ↔ j = 2 := ⟨fun e => by rw [e] at h2; have z1 : (2 : Int32).toInt = 2 := rfl; omega, fun e => i_eq (show _ = (2 : Int) by omega)⟩
  have j3 : (a2 = (3 : Int32)) ↔ j = 3 := ⟨fun e => by rw [e] at h2; have z1 : (3 : Int32).toInt = 3 := rfl; omega, fun e => i_eq (show _ = (3 : Int) by omega)⟩
  by_cases c : 0 ≤ a3.toInt ∧ a3.toInt ≤ slm j
  · rw [if_pos (show (0 : Int32).toInt ≤ a3.toInt ∧ a3.toInt ≤ z.toInt by omega)]
    refine Rt_f (by decide) ?_
    rw [ep]
    have s2 : ∀ (v : Int32) (τ : Sg), ¬ j = 3 → v = gi σ (105 + j) m → τ = si σ (105 + j) m a3 → Rt (LF_X12_set 7 2 a1 a2 a3 0 0 0 v τ) (SETP 105 n a1 a2 a3 σ) := by
      intro v τ h3 e1 e2
      show Rt (LB_X12_set_138 (LF_X12_set 6) a1 a2 a3 v τ) _
      unfold LB_X12_set_138
      exact Rt_f (fun e => h3 (j3.mp e)) (Rt_p (Or.inl ⟨m, j, h1, hm, h2, hj, c, e1, e2⟩))
    have s1 : ∀ (v : Int32) (τ : Sg), ¬ j = 1 → ¬ j = 2 → ¬ j = 3 → v = gi σ (105 + j) m → τ = si σ (105 + j) m a3 → Rt (LF_X12_set 8 1 a1 a2 a3 0 0 0 v τ) (SETP 105 n a1 a2 a3 σ) := by
      intro v τ q1 q2 q3 e1 e2
      show Rt (LB_X12_set_114 (LF_X12_set 7) a1 a2 a3 v τ) _
      unfold LB_X12_set_114
      exact Rt_f (fun e => q1 (j1.mp e)) (Rt_f (fun e => q2 (j2.mp e)) (s2 v τ q3 e1 e2))
    rcases (show j = 0 ∨ j = 1 ∨ j = 2 ∨ j = 3 by omega) with e | e | e | e
    · subst e
      refine Rt_t (j0.mpr rfl) (Rt_fl (fun v ev => Rt_t (j0.mpr rfl) (Rt_fl (fun τ eτ => ?_))))
      exact s1 v τ (by decide) (by decide) (by decide) ev eτ
    · subst e
      refine Rt_f (fun e => by have := j0.mp e; omega) (Rt_t (j1.mpr rfl) (Rt_fl (fun v ev => Rt_f (fun e => by have := j0.mp e; omega) ?_)))
      show Rt (LB_X12_set_114 (LF_X12_set 7) a1 a2 a3 v σ) _
      unfold LB_X12_set_114
      rw [ep]
      exact Rt_t (j1.mpr rfl) (Rt_fl (fun τ eτ => Rt_f (fun e => by have := j2.mp e; omega) (s2 v τ (by decide) ev eτ)))
    · subst e
      refine Rt_f (fun e => by have := j0.mp e; omega) (Rt_f (fun e => by have := j1.mp e; omega) (Rt_t (j2.mpr rfl) (Rt_fl (fun v ev => Rt_f (fun e => by have := j0.mp e; omega) ?_))))
      show Rt (LB_X12_set_114 (LF_X12_set 7) a1 a2 a3 v σ) _
      unfold LB_X12_set_114
      rw [ep]
      exact Rt_f (fun e => by have := j1.mp e; omega) (Rt_t (j2.mpr rfl) (Rt_fl (fun τ eτ => s2 v τ (by decide) ev eτ)))
    · subst e
      refine Rt_f (fun e => by have := j0.mp e; omega) (Rt_f (fun e => by have := j1.mp e; omega) (Rt_f (fun e => by have := j2.mp e; omega) (Rt_fl (fun v ev => Rt_f (fun e => by have := j0.mp e; omega) ?_))))
      show Rt (LB_X12_set_114 (LF_X12_set 7) a1 a2 a3 v σ) _
      unfold LB_X12_set_114
      refine Rt_f (fun e => by have := j1.mp e; omega) (Rt_f (fun e => by have := j2.mp e; omega) ?_)
      show Rt (LB_X12_set_138 (LF_X12_set 6) a1 a2 a3 v σ) _
      unfold LB_X12_set_138
      rw [ep]
      exact Rt_t (j3.mpr rfl) (Rt_fl (fun τ eτ => Rt_p (Or.inl ⟨m, 3, h1, hm, h2, hj, c, ev, eτ⟩)))
  · rw [if_neg (show ¬ ((0 : Int32).toInt ≤ a3.toInt ∧ a3.toInt ≤ z.toInt) from fun q => c ⟨q.1, by have := q.2; omega⟩)]
    refine Rt_t rfl (Rt_p (Or.inr ⟨rfl, Or.inr ⟨⟨by omega, by omega⟩, ?_, rfl⟩⟩))
    rw [show a2.toInt.toNat = j from by omega]; exact c
theorem setM {n : Nat} {a1 a2 a3 : Int32} {σ : Sg} (n6 : n ≤ 6) (hn : (gi σ 74 0).toInt = (n : Int)) : Rt (F_X12_set a1 a2 a3 σ) (SETP 105 n a1 a2 a3 σ) := by
  unfold F_X12_set
  rw [F_mIs hn n6, fb_e]
  by_cases c1 : 0 ≤ a1.toInt ∧ a1.toInt < (n : Int)
  · rw [if_pos c1]
    refine Rt_f (by decide) ?_
    refine Rt_fe F_in ?_
    by_cases c2 : 0 ≤ a2.toInt ∧ a2.toInt ≤ 3
    · rw [if_pos (show (0 : Int32).toInt ≤ a2.toInt ∧ a2.toInt ≤ (3 : Int32).toInt from c2)]
      refine Rt_f (by decide) ?_
      obtain ⟨m, hm⟩ : ∃ m : Nat, a1.toInt = (m : Int) := ⟨a1.toInt.toNat, by omega⟩
      obtain ⟨j, hj⟩ : ∃ j : Nat, a2.toInt = (j : Int) := ⟨a2.toInt.toNat, by omega⟩
      by_cases e0 : j = 0
      · subst e0
        exact Rt_t (i_eq (show _ = (0 : Int) by omega)) (st4M hm (by omega) hj (by decide) rfl)
      refine Rt_f (i_ne (show _ ≠ (0 : Int) by omega)) ?_
      by_cases e1 : j = 1
      · subst e1
        exact Rt_t (i_eq (show _ = (1 : Int) by omega)) (st4M hm (by omega) hj (by decide) rfl)
      refine Rt_f (i_ne (show _ ≠ (1 : Int) by omega)) ?_
      exact st4M hm (by omega) hj (by omega) (by unfold slm; rw [if_neg e0, if_neg e1]; rfl)
    · rw [if_neg (show ¬ ((0 : Int32).toInt ≤ a2.toInt ∧ a2.toInt ≤ (3 : Int32).toInt) from c2)]
      exact Rt_t rfl (Rt_p (Or.inr ⟨rfl, Or.inl ⟨fun z => c2 z.2, rfl⟩⟩))
  · rw [if_neg c1]
    exact Rt_t rfl (Rt_p (Or.inr ⟨rfl, Or.inl ⟨fun z => c1 z.1, rfl⟩⟩))
theorem st4C {n m j : Nat} {a1 a2 a3 z : Int32} {σ : Sg} (h1 : a1.toInt = (m : Int)) (hm : m < n) (h2 : a2.toInt = (j : Int)) (hj : j < 4) (hz : z.toInt = slm j) : Rt (LF_X11_set 9 a1 a2 a3 z σ) (SETP 4 n a1 a2 a3 σ) := by
  have ex := cl_eq (x := a1) (by omega)
  have ep : a1.toNatClampNeg = m := by omega
  show Rt (LB_X11_set_41 (LF_X11_set 8) a1 a2 a3 z σ) _
  unfold LB_X11_set_41
  have bad : ¬ (0 ≤ a3.toInt ∧ a3.toInt ≤ slm j) → Rt ((-2 : Int32), σ) (SETP 4 n a1 a2 a3 σ) := fun c => Rt_p (Or.inr ⟨rfl, Or.inr ⟨⟨by omega, by omega⟩, by rw [show a2.toInt.toNat = j from by omega]; exact c, rfl⟩⟩)
  by_cases c0 : a3.toInt < 0
  · exact Rt_t (i_lt0 c0) (bad (by omega))
  refine Rt_f (i_nlt0 (by omega)) ?_
  by_cases c1 : a3.toInt ≤ slm j
  · refine Rt_t (i_le (by omega)) ?_
    have nb : F_X1_numbersOf 1 a2 σ = (4 + j, σ) := by
      unfold F_X1_numbersOf
      rcases (show j = 0 ∨ j = 1 ∨ j = 2 ∨ j = 3 by omega) with e | e | e | e
      · subst e; rw [if_pos (by omega)]
      · subst e; rw [if_neg (by omega), if_pos (by omega)]
      · subst e; rw [if_neg (by omega), if_neg (by omega), if_pos (by omega)]
      · subst e; rw [if_neg (by omega), if_neg (by omega), if_neg (by omega)]
    refine Rt_fe nb ?_
    rw [ep]
    exact Rt_fl (fun v ev => Rt_fl (fun τ eτ => Rt_p (Or.inl ⟨m, j, h1, hm, h2, hj, ⟨by omega, c1⟩, ev, eτ⟩)))
  · exact Rt_f (i_nle (by omega)) (bad (by omega))
theorem setC {n : Nat} {a1 a2 a3 : Int32} {σ : Sg} (hn : (gi σ 1 1).toInt = (n : Int)) : Rt (F_X11_set a1 a2 a3 σ) (SETP 4 n a1 a2 a3 σ) := by
  unfold F_X11_set
  rw [F_isMower, fb_e, hn]
  by_cases c1 : 0 ≤ a1.toInt ∧ a1.toInt < (n : Int)
  · rw [if_pos c1]
    refine Rt_f (by decide) ?_
    have bad : ¬ (0 ≤ a2.toInt ∧ a2.toInt ≤ 3) → Rt ((-1 : Int32), σ) (SETP 4 n a1 a2 a3 σ) := fun c => Rt_p (Or.inr ⟨rfl, Or.inl ⟨fun z => c z.2, rfl⟩⟩)
    by_cases d0 : a2.toInt < 0
    · exact Rt_t (i_lt0 d0) (bad (by omega))
    refine Rt_f (i_nlt0 (by omega)) ?_
    by_cases d3 : a2.toInt ≤ 3
    · refine Rt_t (i_le (show _ ≤ (3 : Int) from d3)) ?_
      obtain ⟨m, hm⟩ : ∃ m : Nat, a1.toInt = (m : Int) := ⟨a1.toInt.toNat, by omega⟩
      obtain ⟨j, hj⟩ : ∃ j : Nat, a2.toInt = (j : Int) := ⟨a2.toInt.toNat, by omega⟩
      by_cases e0 : j = 0
      · subst e0
        exact Rt_t (i_eq (show _ = (0 : Int) by omega)) (st4C hm (by omega) hj (by decide) rfl)
      refine Rt_f (i_ne (show _ ≠ (0 : Int) by omega)) ?_
      by_cases e1 : j = 1
      · subst e1
        exact Rt_t (i_eq (show _ = (1 : Int) by omega)) (st4C hm (by omega) hj (by decide) rfl)
      refine Rt_f (i_ne (show _ ≠ (1 : Int) by omega)) ?_
      exact st4C hm (by omega) hj (by omega) (by unfold slm; rw [if_neg e0, if_neg e1]; rfl)
    · exact Rt_f (i_nle (show (3 : Int) < _ by omega)) (bad (by omega))
  · rw [if_neg c1]
    exact Rt_t rfl (Rt_p (Or.inr ⟨rfl, Or.inl ⟨fun z => c1 z.1, rfl⟩⟩))
theorem MN_set {V : Vx} {a1 a2 a3 r1 r2 : Int32} {σ σ1 σ2 : Sg} (q : REL σ) (mn : MN σ) (hI : INV V σ) (h1 : F_X11_set a1 a2 a3 σ = (r1, σ1)) (h2 : F_X12_set a1 a2 a3 σ1 = (r2, σ2)) : MN σ2 ∧ r1 = r2 := by
  have hm := MI_f0 hI.2.1
  have hc := q.1.1
  obtain ⟨n, hn⟩ : ∃ n : Nat, (gi σ 1 1).toInt = (n : Int) := ⟨(gi σ 1 1).toInt.toNat, by omega⟩
  have s1 := Rt_of (setC (a1 := a1) (a2 := a2) (a3 := a3) hn) h1
  rcases s1 with ⟨m, j, e1, e2, e3, e4, e5, e6, e7⟩ | ⟨e, s1⟩
  · have g74 : gi σ1 74 0 = gi σ 74 0 := by rw [e7, gi_si_ne (Or.inl (by omega))]
    have s2 := Rt_of (setM (a1 := a1) (a2 := a2) (a3 := a3) (n := n) (by omega) (by rw [g74]; omega)) h2
    rcases s2 with ⟨m', j', k1, k2, k3, k4, k5, k6, k7⟩ | ⟨-, s2⟩
    · obtain rfl : m' = m := by omega
      obtain rfl : j' = j := by omega
      obtain ⟨⟨b1, b2, b3, b4, b5, b6, b7⟩, bi, E1, E2, m2, m28, m11, m17⟩ := mn
      have gg : ∀ id k, ¬ (id = 4 + j' ∧ k = m') → ¬ (id = 105 + j' ∧ k = m') → gi σ2 id k = gi σ id k := fun id k a b => by rw [k7, gi_si_ne (by omega), e7, gi_si_ne (by omega)]
      have x1 : gi σ2 (4 + j') m' = a3 := by rw [k7, gi_si_ne (Or.inl (by omega)), e7, gi_si_eq]
      have x2 : gi σ2 (105 + j') m' = a3 := by rw [k7, gi_si_eq]
      have br : ∀ (i : Nat), i < 4 → BR σ (105 + i) 6 (slm i) → BR σ2 (105 + i) 6 (slm i) := by
        intro i hi hb k hk
        by_cases e : i = j' ∧ k = m'
        · obtain ⟨rfl, rfl⟩ := e
          rw [x2]; exact e5
        · rw [gg _ k (by omega) (by omega)]; exact hb k hk
      refine ⟨⟨⟨BR_eq (fun k _ => gg 103 k (by omega) (by omega)) b1, BR_eq (fun k _ => gg 104 k (by omega) (by omega)) b2, br 0 (by decide) b3, br 1 (by decide) b4, br 2 (by decide) b5, br 3 (by decide) b6, BR_eq (fun k _ => gg 109 k (by omega) (by omega)) b7⟩, BIM_eq (fun id k a b c => gg id k (by omega) (by omega)) bi, ?_, EQN_eq (by rw [gg 17 1 (by omega) (by omega)]) (fun id k a => gg id k (by omega) (by omega)) E2, by rw [gg 74 2 (by omega) (by omega), gg 74 0 (by omega) (by omega)]; exact m2, by rw [gg 74 28 (by omega) (by omega)]; exact m28, by rw [gg 1 11 (by omega) (by omega)]; exact m11, by rw [gg 17 11 (by omega) (by omega)]; exact m17⟩, ?_⟩
      · intro k hk
        rw [gg 1 1 (by omega) (by omega)]
        refine ⟨fun h => ?_, fun h => ?_⟩
        · have E := (E1 k hk).1 h
          have one : ∀ i, i < 4 → gi σ (4 + i) k = gi σ (105 + i) k → gi σ2 (4 + i) k = gi σ2 (105 + i) k := by
            intro i hi h9
            by_cases e : i = j' ∧ k = m'
            · obtain ⟨rfl, rfl⟩ := e; rw [x1, x2]
            · rw [gg _ k (by omega) (by omega), gg _ k (by omega) (by omega)]; exact h9
          exact ⟨one 0 (by decide) E.1, one 1 (by decide) E.2.1, one 2 (by decide) E.2.2.1, one 3 (by decide) E.2.2.2⟩
        · have E := (E1 k hk).2 h
          rw [gg (1 + 3) k (by omega) (by omega), gg (1 + 5) k (by omega) (by omega), gg (1 + 6) k (by omega) (by omega)]
          exact E
      · rw [e6, k6, e7, gi_si_ne (Or.inl (by omega))]
        have E := (E1 m' (by omega)).1 (by omega)
        rcases (show j' = 0 ∨ j' = 1 ∨ j' = 2 ∨ j' = 3 by omega) with rfl | rfl | rfl | rfl
        · exact E.1
        · exact E.2.1
        · exact E.2.2.1
        · exact E.2.2.2
    · exfalso
      rcases s2 with ⟨a, -⟩ | ⟨-, a, -⟩
      · exact a ⟨by omega, by omega⟩
      · exact a (by rw [show a2.toInt.toNat = j from by omega]; exact e5)
  · subst e
    have s2 := Rt_of (setM (a1 := a1) (a2 := a2) (a3 := a3) (n := n) (by omega) (by omega)) h2
    rcases s2 with ⟨m', j', k1, k2, k3, k4, k5, k6, k7⟩ | ⟨e, s2⟩
    · exfalso
      rcases s1 with ⟨a, -⟩ | ⟨-, a, -⟩
      · exact a ⟨by omega, by omega⟩
      · exact a (by rw [show a2.toInt.toNat = j' from by omega]; exact k5)
    · subst e
      refine ⟨mn, ?_⟩
      rcases s1 with ⟨a, b⟩ | ⟨a, a', b⟩ <;> rcases s2 with ⟨c, d⟩ | ⟨c, c', d⟩
      · rw [b, d]
      · exact absurd c a
      · exact absurd a c
      · rw [b, d]
