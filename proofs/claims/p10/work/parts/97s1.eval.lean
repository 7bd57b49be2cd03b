/-! E at a mower: its signs over a pile of truths -/
noncomputable def tvl (L : Nat → Int) (q : Nat × Nat × Nat) : Bool := if q.2.1 = 0 then decide (L q.1 < (q.2.2 : Int)) else if q.2.1 = 1 then decide (L q.1 = (q.2.2 : Int)) else decide ((q.2.2 : Int) < L q.1)
noncomputable def estep (L : Nat → Int) : Tok → List Bool → List Bool
  | Sum.inl q, S => tvl L q :: S
  | Sum.inr 0, b :: S => (!b) :: S
  | Sum.inr 1, a :: b :: S => (b && a) :: S
  | Sum.inr (_ + 2), a :: b :: S => (b || a) :: S
  | Sum.inr _, S => S
noncomputable def eall (L : Nat → Int) : List Tok → List Bool → List Bool
  | [], S => S
  | t :: ts, S => eall L ts (estep L t S)
noncomputable def bts : List Bool → Nat
  | [] => 0
  | b :: S => 2 * bts S + (if b = true then 1 else 0)
noncomputable def bIn (b : Bool) : Int32 := if b = true then 1 else 0
theorem bts_lt : ∀ S, bts S < 2 ^ S.length := by
  intro S
  induction S with
  | nil => decide
  | cons b S ih =>
    show 2 * bts S + (if b = true then 1 else 0) < 2 ^ (S.length + 1)
    rw [Nat.pow_succ]
    cases b
    · rw [if_neg (by decide)]; omega
    · rw [if_pos rfl]; omega
theorem bts_11 {S : List Bool} {k : Nat} (h : S.length ≤ k) : bts S < 2 ^ k := Nat.lt_of_lt_of_le (bts_lt S) (Nat.pow_le_pow_right (by decide) h)
theorem all_r {n : Nat} {p : Nat → Bool} (h : (List.range n).all p = true) (k : Nat) (hk : k < n) : p k = true := List.all_eq_true.mp h k (List.mem_range.mpr hk)
theorem tb_xor (n : Nat) (hn : n < 2048) : (Int32.ofNat n ^^^ (1 : Int32)) = Int32.ofNat (if n % 2 = 0 then n + 1 else n - 1) :=
  of_decide_eq_true (all_r (p := fun n => decide ((Int32.ofNat n ^^^ (1 : Int32)) = Int32.ofNat (if n % 2 = 0 then n + 1 else n - 1))) (by decide +kernel) n hn)
theorem tb_low (n : Nat) (hn : n < 2048) : (Int32.ofNat n &&& (1 : Int32)) = Int32.ofNat (n % 2) ∧ (Int32.ofNat n >>> ((1 : Int32) &&& 31)) = Int32.ofNat (n / 2) :=
  of_decide_eq_true (all_r (p := fun n => decide ((Int32.ofNat n &&& (1 : Int32)) = Int32.ofNat (n % 2) ∧ (Int32.ofNat n >>> ((1 : Int32) &&& 31)) = Int32.ofNat (n / 2))) (by decide +kernel) n hn)
theorem tb_op (n : Nat) (hn : n < 2048) : (Int32.ofNat n ||| Int32.ofNat 0) = Int32.ofNat n ∧ (Int32.ofNat n ||| Int32.ofNat 1) = Int32.ofNat (n - n % 2 + 1) ∧ (Int32.ofNat n &&& ((-2 : Int32) ||| Int32.ofNat 0)) = Int32.ofNat (n - n % 2) ∧ (Int32.ofNat n &&& ((-2 : Int32) ||| Int32.ofNat 1)) = Int32.ofNat n :=
  of_decide_eq_true (all_r (p := fun n => decide ((Int32.ofNat n ||| Int32.ofNat 0) = Int32.ofNat n ∧ (Int32.ofNat n ||| Int32.ofNat 1) = Int32.ofNat (n - n % 2 + 1) ∧ (Int32.ofNat n &&& ((-2 : Int32) ||| Int32.ofNat 0)) = Int32.ofNat (n - n % 2) ∧ (Int32.ofNat n &&& ((-2 : Int32) ||| Int32.ofNat 1)) = Int32.ofNat n)) (by decide +kernel) n hn)
theorem tb_push (n : Nat) (hn : n < 1024) : ((Int32.ofNat n <<< ((1 : Int32) &&& 31)) ||| (0 : Int32)) = Int32.ofNat (2 * n) ∧ ((Int32.ofNat n <<< ((1 : Int32) &&& 31)) ||| (1 : Int32)) = Int32.ofNat (2 * n + 1) :=
  of_decide_eq_true (all_r (p := fun n => decide (((Int32.ofNat n <<< ((1 : Int32) &&& 31)) ||| (0 : Int32)) = Int32.ofNat (2 * n) ∧ ((Int32.ofNat n <<< ((1 : Int32) &&& 31)) ||| (1 : Int32)) = Int32.ofNat (2 * n + 1))) (by decide +kernel) n hn)
theorem ln1 {S : List Bool} (h : 1 ≤ S.length) : ∃ b T, S = b :: T := by
  cases S with
  | nil => exact absurd h (by decide)
  | cons b T => exact ⟨b, T, rfl⟩
theorem ln2 {S : List Bool} (h : 2 ≤ S.length) : ∃ a b T, S = a :: b :: T := by
  obtain ⟨a, T, rfl⟩ := ln1 (S := S) (by omega)
  obtain ⟨b, T, rfl⟩ := ln1 (S := T) (by have : (a :: T).length = T.length + 1 := rfl; omega)
  exact ⟨a, b, T, rfl⟩
set_option maxHeartbeats 4000000 in
theorem holdsC {c0 a3 : Nat} {L : Nat → Int} {σ : Sg} (hL : ∀ f, f ≤ 5 → (gi σ a3 f).toInt = L f) (hLb : ∀ f, f ≤ 5 → 0 ≤ L f ∧ L f ≤ 200000) (h4 : (gi σ c0 4).toInt ≤ 100) {x2 : Int32} (hx2 : x2.toInt ≤ (gi σ c0 4).toInt) :
    ∀ (ts : List Tok) (S : List Bool) (n : Nat) (x4 x5 z : Int32) (i : Nat), Wf 11 S.length ts 1 → S.length ≤ 11 → x4 = Int32.ofNat (bts S) → x5.toInt = (i : Int) → x2.toInt = ((i + ts.length : Nat) : Int) → (∀ j t, ts[j]? = some t → gi σ (c0 + 1) (i + j) = encC t) → 2 * ts.length + 2 ≤ n →
      LF_X2_holds c0 a3 n 0 x2 x4 x5 z σ = (bIn ((eall L ts S).headD false), σ) := by
  intro ts
  induction ts with
  | nil =>
    intro S n x4 x5 z i hw hl e4 e5 e2 _ hn
    obtain ⟨n, rfl⟩ : ∃ k, n = k + 2 := ⟨n - 2, by have : ([] : List Tok).length = 0 := rfl; omega⟩
    have hw : S.length = 1 := hw
    have e2 : x2.toInt = (i : Int) := e2
    obtain ⟨b, T, rfl⟩ := ln1 (S := S) (by omega)
    have hT : T = [] := List.length_eq_zero_iff.mp (by have : (b :: T).length = T.length + 1 := rfl; omega)
    subst hT
    show LB_X2_holds_6 c0 a3 (LF_X2_holds c0 a3 (n + 1)) x2 x4 x5 σ = _
    unfold LB_X2_holds_6
    rw [if_pos (Int32.le_iff_toInt_le.mpr (by omega))]
    show LB_X2_holds_187 c0 a3 (LF_X2_holds c0 a3 n) x4 σ = _
    unfold LB_X2_holds_187
    rw [e4]
    cases b
    · rw [if_neg (show ¬ (Int32.ofNat (bts [false]) &&& (1 : Int32)) = 1 by decide)]; rfl
    · rw [if_pos (show (Int32.ofNat (bts [true]) &&& (1 : Int32)) = 1 by decide)]; rfl
  | cons t ts ih =>
    intro S n x4 x5 z i hw hl e4 e5 e2 hc hn
    rw [List.length_cons] at e2 hn
    obtain ⟨n, rfl⟩ : ∃ k, n = k + 2 := ⟨n - 2, by omega⟩
    have g : gi σ (c0 + 1) i = encC t := hc 0 t rfl
    have nx : ∀ j t', ts[j]? = some t' → gi σ (c0 + 1) (i + 1 + j) = encC t' := fun j t' h => by
      have := hc (j + 1) t' h
      rw [show i + (j + 1) = i + 1 + j from by omega] at this
      exact this
    have t9 : (x5 + (1 : Int32)).toInt = x5.toInt + 1 := i_add (y := (1 : Int32)) (by show (_ : Int) ≤ x5.toInt + 1; omega) (by show x5.toInt + 1 ≤ (_ : Int); omega)
    have ec := cl_eq (x := x5) (by omega)
    show LB_X2_holds_6 c0 a3 (LF_X2_holds c0 a3 (n + 1)) x2 x4 x5 σ = _
    unfold LB_X2_holds_6
    rw [if_neg (show ¬ x2 ≤ x5 from fun h9 => by have := Int32.le_iff_toInt_le.mp h9; omega), if_neg (show ¬ gi σ c0 4 ≤ x5 from fun h9 => by have := Int32.le_iff_toInt_le.mp h9; omega), show x5.toNatClampNeg = i from by omega, g, fl_e]
    cases t with
    | inl q =>
      obtain ⟨f, s, m⟩ := q
      rw [Wf_l] at hw
      obtain ⟨w1, w2, w3, w4, w5⟩ := hw
      replace w2 : f ≤ 5 := w2
      replace w3 : s ≤ 2 := w3
      replace w4 : m ≤ 99 := w4
      obtain ⟨v, hv⟩ : ∃ v, v = encC (Sum.inl (f, s, m)) := ⟨_, rfl⟩
      have ev : v.toInt = ((f * 300 + s * 100 + m : Nat) : Int) := by rw [hv]; exact Int32.toInt_ofNat_of_lt (by omega)
      rw [← hv, if_neg (show ¬ v < 0 from fun h9 => by have := Int32.lt_iff_toInt_lt.mp h9; have z0 : (0 : Int32).toInt = 0 := rfl; omega), fl_e, fl_e]
      have d3 : (v / (300 : Int32)).toInt = (f : Int) := by rw [i_div (k := 300) (by omega) (by decide) rfl, ev]; omega
      have dn : (v / (300 : Int32)).toNatClampNeg = f := by have := cl_eq (x := v / (300 : Int32)) (by omega); omega
      have dm : (v - v / (100 : Int32) * (100 : Int32)).toInt = (m : Int) := by rw [i_rem (k := 100) (by omega) (by decide) rfl, ev]; omega
      have d1 : (v / (100 : Int32)).toInt = ((f * 3 + s : Nat) : Int) := by rw [i_div (k := 100) (by omega) (by decide) rfl, ev]; omega
      have ds : ((v / (100 : Int32)) - (v / (100 : Int32)) / (3 : Int32) * (3 : Int32)).toInt = (s : Int) := by rw [i_rem (k := 3) (by omega) (by decide) rfl, d1]; omega
      have lf := hL f w2
      have lb := hLb f w2
      rw [dn]
      have dd : ((gi σ a3 f) - (v - v / (100 : Int32) * (100 : Int32))).toInt = L f - (m : Int) := by rw [i_sub (by omega) (by omega), lf, dm]
      have bs : bts S < 1024 := bts_11 (k := 10) (by omega)
      have push : ∀ b : Bool, LF_X2_holds c0 a3 (n + 1) 2 x2 x4 x5 (bIn b) σ = (bIn ((eall L ts (b :: S)).headD false), σ) := by
        intro b
        show LB_X2_holds_107 c0 a3 (LF_X2_holds c0 a3 n) x2 x4 x5 (bIn b) σ = _
        unfold LB_X2_holds_107
        have p := tb_push (bts S) bs
        cases b
        · rw [if_pos (show bIn false = 0 from rfl), fl_e, fl_e]
          exact ih (false :: S) n _ _ 0 (i + 1) w5 w1 (by rw [e4, p.1]; rfl) (by rw [t9]; omega) (by omega) nx (by omega)
        · rw [if_neg (show ¬ bIn true = 0 by decide), fl_e, fl_e]
          exact ih (true :: S) n _ _ 0 (i + 1) w5 w1 (by rw [e4, p.2]; rfl) (by rw [t9]; omega) (by omega) nx (by omega)
      show _ = (bIn ((eall L ts (tvl L (f, s, m) :: S)).headD false), σ)
      rw [← push]
      have z0 : (0 : Int32).toInt = 0 := rfl
      have z1 : (1 : Int32).toInt = 1 := rfl
      obtain ⟨v17, h17⟩ : ∃ v17, v17 = (gi σ a3 f) - (v - v / (100 : Int32) * (100 : Int32)) := ⟨_, rfl⟩
      obtain ⟨v18, h18⟩ : ∃ v18, v18 = (v / (100 : Int32)) - (v / (100 : Int32)) / (3 : Int32) * (3 : Int32) := ⟨_, rfl⟩
      rw [← h17] at dd ⊢
      rw [← h18] at ds ⊢
      rcases (show s = 0 ∨ s = 1 ∨ s = 2 by omega) with rfl | rfl | rfl
      · rw [if_pos (show v18 = 0 from Int32.toInt_inj.mp (by omega)), show tvl L (f, 0, m) = decide (L f < (m : Int)) from rfl]
        by_cases q : L f < (m : Int)
        · rw [if_neg (show ¬ 0 ≤ v17 from fun h9 => by have := Int32.le_iff_toInt_le.mp h9; omega), decide_eq_true q]; rfl
        · rw [if_pos (show 0 ≤ v17 from Int32.le_iff_toInt_le.mpr (by omega)), decide_eq_false q]; rfl
      · rw [if_neg (show ¬ v18 = 0 from fun h9 => by rw [h9] at ds; omega), if_pos (show v18 = (1 : Int32) from Int32.toInt_inj.mp (by omega)), show tvl L (f, 1, m) = decide (L f = (m : Int)) from rfl]
        by_cases q : L f = (m : Int)
        · rw [if_pos (show v17 = 0 from Int32.toInt_inj.mp (by omega)), decide_eq_true q]; rfl
        · rw [if_neg (show ¬ v17 = 0 from fun h9 => by rw [h9] at dd; omega), decide_eq_false q]; rfl
      · rw [if_neg (show ¬ v18 = 0 from fun h9 => by rw [h9] at ds; omega), if_neg (show ¬ v18 = (1 : Int32) from fun h9 => by rw [h9] at ds; omega), show tvl L (f, 2, m) = decide ((m : Int) < L f) from rfl]
        by_cases q : (m : Int) < L f
        · rw [if_neg (show ¬ v17 ≤ 0 from fun h9 => by have := Int32.le_iff_toInt_le.mp h9; omega), decide_eq_true q]; rfl
        · rw [if_pos (show v17 ≤ 0 from Int32.le_iff_toInt_le.mpr (by omega)), decide_eq_false q]; rfl
    | inr k =>
      rw [Wf_r] at hw
      by_cases k0 : k = 0
      · subst k0
        rw [if_pos rfl] at hw
        obtain ⟨b, T, rfl⟩ := ln1 hw.1
        have bs : bts (b :: T) < 2048 := bts_11 (k := 11) hl
        have x := tb_xor _ bs
        rw [show encC (Sum.inr 0) = (-1 : Int32) from rfl, if_pos (show (-1 : Int32) < 0 by decide), if_pos rfl, fl_e, fl_e]
        show _ = (bIn ((eall L ts ((!b) :: T)).headD false), σ)
        refine ih ((!b) :: T) (n + 1) _ _ 0 (i + 1) hw.2 hl ?_ (by rw [t9]; omega) (by omega) nx (by omega)
        rw [e4, x]
        cases b
        · show Int32.ofNat (if (2 * bts T + 0) % 2 = 0 then 2 * bts T + 0 + 1 else 2 * bts T + 0 - 1) = Int32.ofNat (2 * bts T + 1)
          rw [if_pos (by omega)]
        · show Int32.ofNat (if (2 * bts T + 1) % 2 = 0 then 2 * bts T + 1 + 1 else 2 * bts T + 1 - 1) = Int32.ofNat (2 * bts T + 0)
          rw [if_neg (by omega)]; rfl
      · rw [if_neg k0] at hw
        obtain ⟨a, b, T, rfl⟩ := ln2 hw.1
        have bs : bts (a :: b :: T) < 2048 := bts_11 (k := 11) hl
        have bs2 : bts (b :: T) < 2048 := bts_11 (k := 11) (by have : (a :: b :: T).length = (b :: T).length + 1 := rfl; omega)
        obtain ⟨l1, l2⟩ := tb_low _ bs
        obtain ⟨o1, o2, o3, o4⟩ := tb_op _ bs2
        have hl2 : (b :: T).length ≤ 11 := by have : (a :: b :: T).length = (b :: T).length + 1 := rfl; omega
        have m2 : bts (a :: b :: T) / 2 = bts (b :: T) := by
          show (2 * bts (b :: T) + (if a = true then 1 else 0)) / 2 = _
          cases a
          · rw [if_neg (by decide)]; omega
          · rw [if_pos rfl]; omega
        have m1 : bts (a :: b :: T) % 2 = if a = true then 1 else 0 := by
          show (2 * bts (b :: T) + (if a = true then 1 else 0)) % 2 = _
          cases a
          · rw [if_neg (by decide)]; omega
          · rw [if_pos rfl]; omega
        rw [m1] at l1
        rw [m2] at l2
        have bb : bts (b :: T) - bts (b :: T) % 2 = 2 * bts T := by
          show (2 * bts T + (if b = true then 1 else 0)) - (2 * bts T + (if b = true then 1 else 0)) % 2 = _
          cases b
          · rw [if_neg (by decide)]; omega
          · rw [if_pos rfl]; omega
        rw [bb] at o2 o3
        rcases (show k = 1 ∨ ∃ j, k = j + 2 from by
          by_cases h : k = 1
          · exact Or.inl h
          · exact Or.inr ⟨k - 2, by omega⟩) with rfl | ⟨j, rfl⟩
        · rw [show encC (Sum.inr 1) = (-2 : Int32) from rfl, if_pos (show (-2 : Int32) < 0 by decide), if_neg (show ¬ (-2 : Int32) = -1 by decide), fl_e, fl_e, if_neg (show ¬ (-2 : Int32) = -3 by decide), fl_e, fl_e]
          show _ = (bIn ((eall L ts ((b && a) :: T)).headD false), σ)
          refine ih ((b && a) :: T) (n + 1) _ _ 0 (i + 1) hw.2 hl2 ?_ (by rw [t9]; omega) (by omega) nx (by omega)
          rw [e4, l1, l2]
          cases a
          · rw [if_neg (by decide), o3, Bool.and_false]; rfl
          · rw [if_pos rfl, o4, Bool.and_true]
        · rw [show encC (Sum.inr (j + 2)) = (-3 : Int32) from rfl, if_pos (show (-3 : Int32) < 0 by decide), if_neg (show ¬ (-3 : Int32) = -1 by decide), fl_e, fl_e, if_pos rfl, fl_e, fl_e]
          show _ = (bIn ((eall L ts ((b || a) :: T)).headD false), σ)
          refine ih ((b || a) :: T) (n + 1) _ _ 0 (i + 1) hw.2 hl2 ?_ (by rw [t9]; omega) (by omega) nx (by omega)
          rw [e4, l1, l2]
          cases a
          · rw [if_neg (by decide), o1, Bool.or_false]
          · rw [if_pos rfl, o2, Bool.or_true]; rfl
