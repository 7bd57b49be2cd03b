/-! the tapes, as functions -/
theorem fb_ite {α β : Type} {c : Prop} {d : Decidable c} {A B : α × Sg} {f : α → Sg → β} : fb (@ite _ c d A B) f = @ite _ c d (fb A f) (fb B f) := by
  by_cases h : c
  · rw [if_pos h, if_pos h]
  · rw [if_neg h, if_neg h]
theorem fb_mk {α β : Type} {x : α} {s : Sg} {f : α → Sg → β} : fb (x, s) f = f x s := rfl
theorem fl_mk {α β : Type} {a : α} {f : α → β} : fl a f = f a := rfl
noncomputable def cutv (s : Int32) (z : Int64) : Int64 := if s.toInt = 0 then z.toInt32.toInt8.toInt32.toInt64 else if s.toInt = 1 then z.toInt32.toInt16.toInt32.toInt64 else if s.toInt = 2 then z.toInt32.toInt64 else if s.toInt = 4 then (if lg_cmp z (0 : Int64) = 0 then (0 : Int64) else (1 : Int64)) else z
theorem F_cut {c0 : Nat} {a1 : Int64} {σ : Sg} : F_X9_cut c0 a1 σ = (cutv (gi σ c0 1) a1, σ) := by
  unfold F_X9_cut cutv
  by_cases h0 : (gi σ c0 1).toInt = 0
  · rw [if_pos h0, if_pos h0]
  rw [if_neg h0, if_neg h0]
  by_cases h1 : (gi σ c0 1).toInt = 1
  · rw [if_pos h1, if_pos h1]
  rw [if_neg h1, if_neg h1]
  by_cases h2 : (gi σ c0 1).toInt = 2
  · rw [if_pos h2, if_pos h2]
  rw [if_neg h2, if_neg h2]
  by_cases h3 : (gi σ c0 1).toInt = 3
  · rw [if_pos h3, if_neg (by omega)]
  rw [if_neg h3]
  by_cases h4 : (gi σ c0 1).toInt = 4
  · rw [if_pos h4, if_pos h4]
    by_cases hz : lg_cmp a1 (0 : Int64) = 0
    · rw [if_pos hz, if_pos hz]
    · rw [if_neg hz, if_neg hz]
  rw [if_neg h4, if_neg h4]
theorem F_narrow {a1 : Int32} {z : Int64} {σ : Sg} : F_X12_narrow a1 z σ = (cutv a1 z, σ) := by
  unfold F_X12_narrow cutv
  have e : ∀ n : Int32, a1 = n ↔ a1.toInt = n.toInt := fun n => Int32.toInt_inj.symm
  by_cases h0 : a1.toInt = 0
  · rw [if_pos ((e 0).mpr h0), if_pos h0]
  rw [if_neg (fun h => h0 ((e 0).mp h)), if_neg h0]
  by_cases h1 : a1.toInt = 1
  · rw [if_pos ((e 1).mpr h1), if_pos h1]
  rw [if_neg (fun h => h1 ((e 1).mp h)), if_neg h1]
  by_cases h2 : a1.toInt = 2
  · rw [if_pos ((e 2).mpr h2), if_pos h2]
  rw [if_neg (fun h => h2 ((e 2).mp h)), if_neg h2]
  by_cases h4 : a1.toInt = 4
  · rw [if_pos ((e 4).mpr h4), if_pos h4]
    by_cases hz : lg_cmp z (0 : Int64) = 0
    · rw [if_pos hz, if_pos hz]
    · rw [if_neg hz, if_neg hz]
  rw [if_neg (fun h => h4 ((e 4).mp h)), if_neg h4]
theorem i_lt0 {a : Int32} (h : a.toInt < 0) : a < 0 := Int32.lt_iff_toInt_lt.mpr h
theorem i_nlt0 {a : Int32} (h : 0 ≤ a.toInt) : ¬ a < 0 := fun q => by
  have q2 : a.toInt < 0 := Int32.lt_iff_toInt_lt.mp q
  omega
theorem i_lt {a b : Int32} (h : a.toInt < b.toInt) : a < b := Int32.lt_iff_toInt_lt.mpr h
theorem i_nlt {a b : Int32} (h : b.toInt ≤ a.toInt) : ¬ a < b := fun q => by
  have q2 := Int32.lt_iff_toInt_lt.mp q
  omega
theorem i_le {a b : Int32} (h : a.toInt ≤ b.toInt) : a ≤ b := Int32.le_iff_toInt_le.mpr h
theorem i_nle {a b : Int32} (h : b.toInt < a.toInt) : ¬ a ≤ b := fun q => by
  have q2 := Int32.le_iff_toInt_le.mp q
  omega
theorem i_ne {a b : Int32} (h : a.toInt ≠ b.toInt) : ¬ a = b := fun q => h (congrArg Int32.toInt q)
theorem i_eq {a b : Int32} (h : a.toInt = b.toInt) : a = b := Int32.toInt_inj.mp h
theorem F_isTape {a1 : Int32} {σ : Sg} : F_X11_isTape a1 σ = (if 0 ≤ a1.toInt ∧ a1.toInt ≤ 5 then (1 : Int32) else 0, σ) := by
  unfold F_X11_isTape
  by_cases c1 : a1.toInt < 0
  · rw [if_pos (i_lt0 c1), if_neg (by omega)]
  rw [if_neg (i_nlt0 (by omega))]
  by_cases c2 : (6 : Int) ≤ a1.toInt
  · rw [if_pos (i_le (a := (6 : Int32)) c2), if_neg (by omega)]
  · rw [if_neg (i_nle (a := (6 : Int32)) (by show a1.toInt < 6; omega)), if_pos (by omega)]
theorem F_in {a b c : Int32} {σ : Sg} : F_X12_in a b c σ = (if b.toInt ≤ a.toInt ∧ a.toInt ≤ c.toInt then (1 : Int32) else 0, σ) := by
  unfold F_X12_in
  by_cases c1 : a.toInt < b.toInt
  · rw [if_pos (i_lt c1), if_neg (by omega)]
  rw [if_neg (i_nlt (by omega))]
  by_cases c2 : c.toInt < a.toInt
  · rw [if_pos (i_lt c2), if_neg (by omega)]
  · rw [if_neg (i_nlt (by omega)), if_pos (by omega)]
theorem F_misTape {a1 : Int32} {σ : Sg} : F_X12_isTape a1 σ = (if 0 ≤ a1.toInt ∧ a1.toInt ≤ 5 then (1 : Int32) else 0, σ) := by
  unfold F_X12_isTape
  rw [F_in]
  rfl
theorem F_isEmpty {c0 : Nat} {σ : Sg} : F_X9_isEmpty c0 σ = (if (gi σ c0 1).toInt < 0 then (1 : Int32) else 0, σ) := by
  unfold F_X9_isEmpty
  by_cases c1 : (gi σ c0 1).toInt < 0
  · rw [if_neg (i_nle c1), if_pos c1]
  · rw [if_pos (i_le (by show (0 : Int) ≤ _; omega)), if_neg c1]
theorem F_has {c0 : Nat} {a1 : Int32} {σ : Sg} : F_X9_has c0 a1 σ = (if 0 ≤ a1.toInt ∧ a1.toInt < (gi σ c0 2).toInt then (1 : Int32) else 0, σ) := by
  unfold F_X9_has
  by_cases c1 : a1.toInt < 0
  · rw [if_pos (i_lt0 c1), if_neg (by omega)]
  rw [if_neg (i_nlt0 (by omega))]
  by_cases c2 : (gi σ c0 2).toInt ≤ a1.toInt
  · rw [if_pos (i_le c2), if_neg (by omega)]
  · rw [if_neg (i_nle (by omega)), if_pos (by omega)]
theorem F_hasPart {c0 : Nat} {a1 a2 : Int32} {σ : Sg} (h0 : 0 ≤ (gi σ c0 2).toInt) (h1 : (gi σ c0 2).toInt ≤ 60) : F_X9_hasPart c0 a1 a2 σ = (if 0 ≤ a2.toInt ∧ 0 ≤ a1.toInt ∧ a1.toInt ≤ (gi σ c0 2).toInt - a2.toInt then (1 : Int32) else 0, σ) := by
  unfold F_X9_hasPart
  by_cases c1 : a2.toInt < 0
  · rw [if_pos (i_lt0 c1), if_neg (by omega)]
  rw [if_neg (i_nlt0 (by omega))]
  by_cases c2 : a1.toInt < 0
  · rw [if_pos (i_lt0 c2), if_neg (by omega)]
  rw [if_neg (i_nlt0 (by omega))]
  by_cases c3 : (gi σ c0 2).toInt < a2.toInt
  · rw [if_pos (i_lt c3), if_neg (by omega)]
  rw [if_neg (i_nlt (by omega))]
  have e : ((gi σ c0 2) - a2).toInt = (gi σ c0 2).toInt - a2.toInt := i_sub (by show (_ : Int) ≤ (gi σ c0 2).toInt - a2.toInt; omega) (by show (gi σ c0 2).toInt - a2.toInt ≤ (_ : Int); omega)
  by_cases c4 : (gi σ c0 2).toInt - a2.toInt < a1.toInt
  · rw [if_pos (i_lt (by rw [e]; exact c4)), if_neg (by omega)]
  · rw [if_neg (i_nlt (by rw [e]; omega)), if_pos (by omega)]
/-- what both tapes hold alike -/
noncomputable def TAP (σ : Sg) : Prop := ∀ t : Nat, t < 6 → gi σ (52 + 2 * t) 1 = gi σ 171 t ∧ gi σ (52 + 2 * t) 2 = gi σ 172 t ∧ ((gi σ 171 t).toInt < 0 → (gi σ 172 t).toInt = 0) ∧ ∀ i : Nat, i < 60 → gl σ (52 + 2 * t + 1) i = gl σ 173 (60 * t + i)
theorem gl_sl {σ : Sg} {a k b j : Nat} {v : Int64} : gl (sl σ a k v) b j = if b = a ∧ j = k then v else gl σ b j := by
  unfold gl sl sla va_up vp_updL
  by_cases h : b = a
  · subst h
    by_cases h2 : j = k
    · subst h2; simp
    · simp [h2]
  · simp [h]
theorem gl_sla {σ : Sg} {a b j : Nat} {g : Nat → Int64} : gl (sla σ a g) b j = if b = a then g j else gl σ b j := by
  unfold gl sla va_up
  by_cases h : b = a
  · subst h; simp
  · simp [h]
theorem gl_si {σ : Sg} {a k b j : Nat} {v : Int32} : gl (si σ a k v) b j = gl σ b j := rfl
theorem gi_sl {σ : Sg} {a k b j : Nat} {v : Int64} : gi (sl σ a k v) b j = gi σ b j := rfl
theorem gi_sla {σ : Sg} {a b j : Nat} {g : Nat → Int64} : gi (sla σ a g) b j = gi σ b j := rfl
theorem ite_10 {α : Type} {c : Prop} {d : Decidable c} {A B : α} : (if (@ite Int32 c d 1 0) = 0 then A else B) = @ite α c d B A := by
  by_cases h : c
  · rw [if_pos h, if_pos h, if_neg (by decide)]
  · rw [if_neg h, if_neg h, if_pos rfl]
/-- one item -/
theorem N_xitem {a1 a2 : Int32} {a3 : Int64} {σ : Sg} : F_X11_item a1 a2 a3 σ = if 0 ≤ a1.toInt ∧ a1.toInt ≤ 5 then (if (gi σ (52 + 2 * a1.toNatClampNeg) 1).toInt < 0 then ((-11 : Int32), σ) else if 0 ≤ a2.toInt ∧ a2.toInt < (gi σ (52 + 2 * a1.toNatClampNeg) 2).toInt then ((1 : Int32), sl σ (52 + 2 * a1.toNatClampNeg + 1) a2.toNatClampNeg (cutv (gi σ (52 + 2 * a1.toNatClampNeg) 1) a3)) else ((-13 : Int32), σ)) else ((-1 : Int32), σ) := by
  unfold F_X11_item
  rw [F_isTape, fb_mk, ite_10]
  by_cases c : 0 ≤ a1.toInt ∧ a1.toInt ≤ 5
  · rw [if_pos c, if_pos c, F_isEmpty, fb_mk, ite_10]
    by_cases c2 : (gi σ (52 + 2 * a1.toNatClampNeg) 1).toInt < 0
    · rw [if_pos c2, if_pos c2]
    · rw [if_neg c2, if_neg c2, F_has, fb_mk, ite_10, F_cut, fb_mk]
      rfl
  · rw [if_neg c, if_neg c]
theorem N_mitem {a1 a2 : Int32} {a3 : Int64} {σ : Sg} (h0 : 0 ≤ (gi σ 172 a1.toNatClampNeg).toInt) (h1 : (gi σ 172 a1.toNatClampNeg).toInt ≤ 60) : F_X12_item a1 a2 a3 σ = if 0 ≤ a1.toInt ∧ a1.toInt ≤ 5 then (if (gi σ 171 a1.toNatClampNeg).toInt < 0 then ((-11 : Int32), σ) else if 0 ≤ a2.toInt ∧ a2.toInt < (gi σ 172 a1.toNatClampNeg).toInt then ((1 : Int32), sl σ 173 (60 * a1.toNatClampNeg + a2.toNatClampNeg) (cutv (gi σ 171 a1.toNatClampNeg) a3)) else ((-13 : Int32), σ)) else ((-1 : Int32), σ) := by
  unfold F_X12_item
  rw [F_misTape, fb_mk, ite_10]
  by_cases c : 0 ≤ a1.toInt ∧ a1.toInt ≤ 5
  · rw [if_pos c, if_pos c]
    by_cases c2 : (gi σ 171 a1.toNatClampNeg).toInt < 0
    · rw [if_neg (i_nle c2), if_pos c2]
    · rw [if_pos (i_le (by show (0 : Int) ≤ _; omega)), if_neg c2, F_in, fb_mk, ite_10]
      have e : ((gi σ 172 a1.toNatClampNeg) - (1 : Int32)).toInt = (gi σ 172 a1.toNatClampNeg).toInt - 1 := i_sub (y := (1 : Int32)) (by show (_ : Int) ≤ (gi σ 172 a1.toNatClampNeg).toInt - 1; omega) (by show (gi σ 172 a1.toNatClampNeg).toInt - 1 ≤ (_ : Int); omega)
      have z : (0 : Int32).toInt = 0 := rfl
      by_cases c3 : 0 ≤ a2.toInt ∧ a2.toInt < (gi σ 172 a1.toNatClampNeg).toInt
      · rw [if_pos (by rw [e]; omega), if_pos c3, F_narrow, fb_mk]
        have k1 : ((60 : Int32) * a1).toInt = 60 * a1.toInt := i_mull rfl (by omega) (by omega)
        have k2 : (((60 : Int32) * a1) + a2).toInt = ((60 : Int32) * a1).toInt + a2.toInt := i_add (by show (_ : Int) ≤ ((60 : Int32) * a1).toInt + a2.toInt; omega) (by show ((60 : Int32) * a1).toInt + a2.toInt ≤ (_ : Int); omega)
        have k3 : (((60 : Int32) * a1) + a2).toNatClampNeg = 60 * a1.toNatClampNeg + a2.toNatClampNeg := by
          have q1 := cl_eq (x := ((60 : Int32) * a1) + a2) (by omega)
          have q2 := cl_eq (x := a1) (by omega)
          have q3 := cl_eq (x := a2) (by omega)
          omega
        show ((1 : Int32), sl σ 173 (((60 : Int32) * a1) + a2).toNatClampNeg (cutv (gi σ 171 a1.toNatClampNeg) a3)) = _
        rw [k3]
      · rw [if_neg (by rw [e]; omega), if_neg c3]
  · rw [if_neg c, if_neg c]
theorem N_xread {a1 a2 : Int32} {σ : Sg} : F_X11_read a1 a2 σ = if 0 ≤ a1.toInt ∧ a1.toInt ≤ 5 then (if 0 ≤ a2.toInt ∧ a2.toInt < (gi σ (52 + 2 * a1.toNatClampNeg) 2).toInt then (gl σ (52 + 2 * a1.toNatClampNeg + 1) a2.toNatClampNeg, σ) else ((-9223372036854775808 : Int64), σ)) else ((-9223372036854775808 : Int64), σ) := by
  unfold F_X11_read
  rw [F_isTape, fb_mk, ite_10]
  by_cases c : 0 ≤ a1.toInt ∧ a1.toInt ≤ 5
  · rw [if_pos c, if_pos c, F_has, fb_mk, ite_10]
  · rw [if_neg c, if_neg c]
theorem N_mread {a1 a2 : Int32} {σ : Sg} (h0 : 0 ≤ (gi σ 172 a1.toNatClampNeg).toInt) (h1 : (gi σ 172 a1.toNatClampNeg).toInt ≤ 60) : F_X12_read a1 a2 σ = if 0 ≤ a1.toInt ∧ a1.toInt ≤ 5 then (if (gi σ 171 a1.toNatClampNeg).toInt < 0 then ((-9223372036854775808 : Int64), σ) else if 0 ≤ a2.toInt ∧ a2.toInt < (gi σ 172 a1.toNatClampNeg).toInt then (gl σ 173 (60 * a1.toNatClampNeg + a2.toNatClampNeg), σ) else ((-9223372036854775808 : Int64), σ)) else ((-9223372036854775808 : Int64), σ) := by
  unfold F_X12_read
  rw [F_misTape, fb_mk, ite_10]
  by_cases c : 0 ≤ a1.toInt ∧ a1.toInt ≤ 5
  · rw [if_pos c, if_pos c]
    by_cases c2 : (gi σ 171 a1.toNatClampNeg).toInt < 0
    · rw [if_pos (i_lt0 c2), if_pos c2]
    · rw [if_neg (i_nlt0 (by omega)), if_neg c2, F_in, fb_mk, ite_10]
      have e : ((gi σ 172 a1.toNatClampNeg) - (1 : Int32)).toInt = (gi σ 172 a1.toNatClampNeg).toInt - 1 := i_sub (y := (1 : Int32)) (by show (_ : Int) ≤ (gi σ 172 a1.toNatClampNeg).toInt - 1; omega) (by show (gi σ 172 a1.toNatClampNeg).toInt - 1 ≤ (_ : Int); omega)
      have z : (0 : Int32).toInt = 0 := rfl
      by_cases c3 : 0 ≤ a2.toInt ∧ a2.toInt < (gi σ 172 a1.toNatClampNeg).toInt
      · rw [if_pos (by rw [e]; omega), if_pos c3]
        have k1 : ((60 : Int32) * a1).toInt = 60 * a1.toInt := i_mull rfl (by omega) (by omega)
        have k2 : (((60 : Int32) * a1) + a2).toInt = ((60 : Int32) * a1).toInt + a2.toInt := i_add (by show (_ : Int) ≤ ((60 : Int32) * a1).toInt + a2.toInt; omega) (by show ((60 : Int32) * a1).toInt + a2.toInt ≤ (_ : Int); omega)
        have k3 : (((60 : Int32) * a1) + a2).toNatClampNeg = 60 * a1.toNatClampNeg + a2.toNatClampNeg := by
          have q1 := cl_eq (x := ((60 : Int32) * a1) + a2) (by omega)
          have q2 := cl_eq (x := a1) (by omega)
          have q3 := cl_eq (x := a2) (by omega)
          omega
        rw [k3]
      · rw [if_neg (by rw [e]; omega), if_neg c3]
  · rw [if_neg c, if_neg c]
theorem sla_self {σ : Sg} {a : Nat} {g : Nat → Int64} (h : ∀ j, g j = gl σ a j) : sla σ a g = σ := by
  have e : va_up σ.2.1 a g = σ.2.1 := by
    funext b
    unfold va_up
    by_cases q : b = a
    · rw [if_pos q, q]; funext j; exact h j
    · rw [if_neg q]
  show (σ.1, va_up σ.2.1 a g, σ.2.2) = σ
  rw [e]
theorem sla_sla {σ : Sg} {a : Nat} {g h : Nat → Int64} : sla (sla σ a g) a h = sla σ a h := by
  have e : va_up (va_up σ.2.1 a g) a h = va_up σ.2.1 a h := by
    funext b
    unfold va_up
    by_cases q : b = a
    · rw [if_pos q, if_pos q]
    · rw [if_neg q, if_neg q, if_neg q]
  show (σ.1, va_up (va_up σ.2.1 a g) a h, σ.2.2) = _
  rw [e]
  rfl
theorem sla_ext {σ : Sg} {a : Nat} {g h : Nat → Int64} (e : ∀ j, g j = h j) : sla σ a g = sla σ a h := by rw [funext e]
theorem sl_sla {σ : Sg} {a k : Nat} {v : Int64} : sl σ a k v = sla σ a (fun j => if j = k then v else gl σ a j) := rfl
theorem LF_fill {a : Nat} {v : Int64} : ∀ (n : Nat) (x3 : Int32) (σ : Sg), 0 ≤ x3.toInt → x3.toInt ≤ 60 → (60 - x3.toInt).toNat < n → LF_J7_fill_d0a16 a n v x3 60 σ = sla σ a (fun j => if x3.toNatClampNeg ≤ j ∧ j < 60 then v else gl σ a j) := by
  intro n
  induction n with
  | zero => intro x3 σ _ _ h; exact absurd h (Nat.not_lt_zero _)
  | succ n ih =>
    intro x3 σ h0 h6 hn
    show LB_J7_fill_d0a16_6 a (LF_J7_fill_d0a16 a n) v x3 60 σ = _
    have ec := cl_eq h0
    unfold LB_J7_fill_d0a16_6
    by_cases c : (60 : Int) ≤ x3.toInt
    · rw [if_pos (i_le (a := (60 : Int32)) c)]
      exact (sla_self (fun j => by rw [if_neg (by omega)])).symm
    · rw [if_neg (i_nle (by show x3.toInt < 60; omega))]
      have e1 : (x3 + 1).toInt = x3.toInt + 1 := i_add (y := (1 : Int32)) (by show (_ : Int) ≤ x3.toInt + 1; omega) (by show x3.toInt + 1 ≤ (_ : Int); omega)
      have ec1 := cl_eq (x := x3 + 1) (by omega)
      show LF_J7_fill_d0a16 a n v (x3 + 1) 60 (sl σ a x3.toNatClampNeg v) = _
      rw [ih (x3 + 1) _ (by omega) (by omega) (by omega), sl_sla, sla_sla]
      refine sla_ext (fun j => ?_)
      rw [gl_sla, if_pos rfl]
      by_cases q : j = x3.toNatClampNeg
      · rw [if_neg (by omega), if_pos q, if_pos (by omega)]
      · rw [if_neg q]
        by_cases q2 : x3.toNatClampNeg ≤ j ∧ j < 60
        · rw [if_pos (by omega), if_pos q2]
        · rw [if_neg (by omega), if_neg q2]
theorem F_fill {a : Nat} {v : Int64} {σ : Sg} : F_J7_fill_d0a16 a v σ = sla σ a (fun j => if j < 60 then v else gl σ a j) := by
  unfold F_J7_fill_d0a16
  rw [fl_mk, show Int32.ofNat 60 = (60 : Int32) from rfl, LF_fill 90 0 σ (by decide) (by decide) (by decide)]
  refine sla_ext (fun j => ?_)
  have z : (0 : Int32).toNatClampNeg = 0 := by decide
  rw [z]
  by_cases q : j < 60
  · rw [if_pos ⟨Nat.zero_le _, q⟩, if_pos q]
  · rw [if_neg (fun h => q h.2), if_neg q]
/-- a tape laid anew: the class's, the model's -/
noncomputable def TX (σ : Sg) (c : Nat) (s n : Int32) : Sg := sla (si (si σ c 1 s) c 2 n) (c + 1) (fun j => if j < 60 then 0 else gl σ (c + 1) j)
noncomputable def TM (σ : Sg) (t : Nat) (s n : Int32) : Sg := sla (si (si σ 171 t s) 172 t n) 173 (fun j => if 60 * t ≤ j ∧ j < 60 * t + 60 then 0 else gl σ 173 j)
theorem F_becomes {c : Nat} {s n : Int32} {σ : Sg} : F_X9_becomes c s n σ = TX σ c s n := by
  unfold F_X9_becomes TX
  rw [fl_mk, fl_mk, fl_mk, F_fill]
  rfl
theorem LF_mtape {a b x1 : Int32} (h0 : 0 ≤ x1.toInt) (h5 : x1.toInt ≤ 5) : ∀ (n : Nat) (x4 : Int32) (σ : Sg), 0 ≤ x4.toInt → x4.toInt ≤ 60 → (60 - x4.toInt).toNat < n → LF_X12_tape n 1 x1 a b x4 σ = ((1 : Int32), sla σ 173 (fun j => if 60 * x1.toNatClampNeg + x4.toNatClampNeg ≤ j ∧ j < 60 * x1.toNatClampNeg + 60 then 0 else gl σ 173 j)) := by
  intro n
  induction n generalizing a b with
  | zero => intro x4 σ _ _ h; exact absurd h (Nat.not_lt_zero _)
  | succ n ih =>
    intro x4 σ g0 g6 hn
    show LB_X12_tape_69 (LF_X12_tape n) x1 x4 σ = _
    have ec := cl_eq g0
    have ed := cl_eq h0
    unfold LB_X12_tape_69
    by_cases c : (60 : Int) ≤ x4.toInt
    · rw [if_pos (i_le (a := (60 : Int32)) c), sla_self (fun j => by rw [if_neg (by omega)])]
    · rw [if_neg (i_nle (by show x4.toInt < 60; omega))]
      have e1 : (x4 + 1).toInt = x4.toInt + 1 := i_add (y := (1 : Int32)) (by show (_ : Int) ≤ x4.toInt + 1; omega) (by show x4.toInt + 1 ≤ (_ : Int); omega)
      have ec1 := cl_eq (x := x4 + 1) (by omega)
      have k1 : ((60 : Int32) * x1).toInt = 60 * x1.toInt := i_mull rfl (by omega) (by omega)
      have k2 : (((60 : Int32) * x1) + x4).toInt = ((60 : Int32) * x1).toInt + x4.toInt := i_add (by show (_ : Int) ≤ ((60 : Int32) * x1).toInt + x4.toInt; omega) (by show ((60 : Int32) * x1).toInt + x4.toInt ≤ (_ : Int); omega)
      have k3 := cl_eq (x := ((60 : Int32) * x1) + x4) (by omega)
      show LF_X12_tape n 1 x1 0 0 (x4 + 1) (sl σ 173 (((60 : Int32) * x1) + x4).toNatClampNeg 0) = _
      rw [ih (x4 + 1) _ (by omega) (by omega) (by omega), sl_sla, sla_sla]
      congr 1
      refine sla_ext (fun j => ?_)
      rw [gl_sla, if_pos rfl]
      by_cases q : j = (((60 : Int32) * x1) + x4).toNatClampNeg
      · rw [if_neg (by omega), if_pos q, if_pos (by omega)]
      · rw [if_neg q]
        by_cases q2 : 60 * x1.toNatClampNeg + x4.toNatClampNeg ≤ j ∧ j < 60 * x1.toNatClampNeg + 60
        · rw [if_pos (by omega), if_pos q2]
        · rw [if_neg (by omega), if_neg q2]
theorem LF_mtape0 {x1 x2 x3 x4 : Int32} {σ : Sg} (h0 : 0 ≤ x1.toInt) (h5 : x1.toInt ≤ 5) : ∀ n : Nat, 100 < n → LF_X12_tape n 0 x1 x2 x3 x4 σ = ((1 : Int32), TM σ x1.toNatClampNeg x2 (if 0 ≤ x2.toInt then x3 else 0)) := by
  intro n hn
  cases n with
  | zero => exact absurd hn (Nat.not_lt_zero _)
  | succ n =>
    show LB_X12_tape_44 (LF_X12_tape n) x1 x2 x3 σ = _
    have z : (0 : Int32).toNatClampNeg = 0 := by decide
    have k : (60 - (0 : Int32).toInt).toNat < n := by show (60 - (0 : Int)).toNat < n; omega
    unfold LB_X12_tape_44
    simp only [fl_mk]
    rw [LF_mtape h0 h5 n 0 _ (by decide) (by decide) k, LF_mtape h0 h5 n 0 _ (by decide) (by decide) k, z]
    unfold TM
    by_cases c : 0 ≤ x2.toInt
    · rw [if_pos (i_le (a := (0 : Int32)) c), if_pos c]
      rfl
    · rw [if_neg (i_nle (a := (0 : Int32)) (by show x2.toInt < 0; omega)), if_neg c]
      rfl
theorem N_xtape {a1 a2 a3 : Int32} {σ : Sg} : F_X11_tape a1 a2 a3 σ = if 0 ≤ a1.toInt ∧ a1.toInt ≤ 5 then (if a2.toInt = -1 then ((1 : Int32), TX σ (52 + 2 * a1.toNatClampNeg) (-1) 0) else if a2.toInt < -1 ∨ 4 < a2.toInt ∨ 60 < a3.toInt then ((-2 : Int32), σ) else if a3.toInt < 0 then ((-14 : Int32), σ) else ((1 : Int32), TX σ (52 + 2 * a1.toNatClampNeg) a2 a3)) else ((-1 : Int32), σ) := by
  unfold F_X11_tape
  rw [F_isTape, fb_mk, ite_10]
  simp only [F_becomes, fl_mk, Int32.lt_iff_toInt_lt, Int32.le_iff_toInt_le, ← Int32.toInt_inj]
  have z0 : (0 : Int32).toInt = 0 := rfl
  have z1 : (-1 : Int32).toInt = -1 := rfl
  have z4 : (4 : Int32).toInt = 4 := rfl
  have z60 : (60 : Int32).toInt = 60 := rfl
  (repeat' split) <;> first | rfl | (exfalso; omega)
theorem N_mtape {a1 a2 a3 : Int32} {σ : Sg} : F_X12_tape a1 a2 a3 σ = if 0 ≤ a1.toInt ∧ a1.toInt ≤ 5 then (if a2.toInt = -1 then ((1 : Int32), TM σ a1.toNatClampNeg a2 0) else if a2.toInt < -1 ∨ 4 < a2.toInt ∨ 60 < a3.toInt then ((-2 : Int32), σ) else if a3.toInt < 0 then ((-14 : Int32), σ) else ((1 : Int32), TM σ a1.toNatClampNeg a2 a3)) else ((-1 : Int32), σ) := by
  unfold F_X12_tape
  rw [F_misTape, fb_mk, ite_10]
  have z0 : (0 : Int32).toInt = 0 := rfl
  have z1 : (-1 : Int32).toInt = -1 := rfl
  have z4 : (4 : Int32).toInt = 4 := rfl
  have z60 : (60 : Int32).toInt = 60 := rfl
  by_cases c : 0 ≤ a1.toInt ∧ a1.toInt ≤ 5
  · rw [if_pos c, if_pos c, F_in, fb_mk, ite_10, LF_mtape0 c.1 c.2 200 (by decide)]
    simp only [Int32.lt_iff_toInt_lt, Int32.le_iff_toInt_le]
    (repeat' split) <;> first | rfl | (exfalso; omega)
  · rw [if_neg c, if_neg c]
theorem N_xshift {a1 a2 a3 a4 a5 : Int32} {σ : Sg} (h0 : 0 ≤ a1.toInt → a1.toInt ≤ 5 → 0 ≤ (gi σ (52 + 2 * a1.toNatClampNeg) 2).toInt ∧ (gi σ (52 + 2 * a1.toNatClampNeg) 2).toInt ≤ 60) (h1 : 0 ≤ a3.toInt → a3.toInt ≤ 5 → 0 ≤ (gi σ (52 + 2 * a3.toNatClampNeg) 2).toInt ∧ (gi σ (52 + 2 * a3.toNatClampNeg) 2).toInt ≤ 60) : F_X11_shift a1 a2 a3 a4 a5 σ = if (0 ≤ a1.toInt ∧ a1.toInt ≤ 5) ∧ (0 ≤ a3.toInt ∧ a3.toInt ≤ 5) then (if (gi σ (52 + 2 * a1.toNatClampNeg) 1).toInt < 0 ∨ (gi σ (52 + 2 * a3.toNatClampNeg) 1).toInt < 0 then ((-11 : Int32), σ) else if (gi σ (52 + 2 * a1.toNatClampNeg) 1).toInt = (gi σ (52 + 2 * a3.toNatClampNeg) 1).toInt then (if (0 ≤ a5.toInt ∧ 0 ≤ a2.toInt ∧ a2.toInt ≤ (gi σ (52 + 2 * a1.toNatClampNeg) 2).toInt - a5.toInt) ∧ (0 ≤ a5.toInt ∧ 0 ≤ a4.toInt ∧ a4.toInt ≤ (gi σ (52 + 2 * a3.toNatClampNeg) 2).toInt - a5.toInt) then (a5, sla σ (52 + 2 * a3.toNatClampNeg + 1) (va_cpy (σ.2.1 (52 + 2 * a1.toNatClampNeg + 1)) (σ.2.1 (52 + 2 * a3.toNatClampNeg + 1)) a2.toNatClampNeg a4.toNatClampNeg a5.toNatClampNeg)) else ((-13 : Int32), σ)) else ((-12 : Int32), σ)) else ((-1 : Int32), σ) := by
  unfold F_X11_shift
  rw [F_isTape, fb_mk, ite_10]
  by_cases c : 0 ≤ a1.toInt ∧ a1.toInt ≤ 5
  · rw [if_pos c, F_isTape, fb_mk, ite_10]
    by_cases c3 : 0 ≤ a3.toInt ∧ a3.toInt ≤ 5
    · obtain ⟨p0, p1⟩ := h0 c.1 c.2
      obtain ⟨p2, p3⟩ := h1 c3.1 c3.2
      rw [if_pos c3, if_pos (And.intro c c3), F_isEmpty, fb_mk, ite_10]
      by_cases d : (gi σ (52 + 2 * a1.toNatClampNeg) 1).toInt < 0
      · rw [if_pos d, if_pos (Or.inl d)]
      rw [if_neg d, F_isEmpty, fb_mk, ite_10]
      by_cases d3 : (gi σ (52 + 2 * a3.toNatClampNeg) 1).toInt < 0
      · rw [if_pos d3, if_pos (Or.inr d3)]
      rw [if_neg d3, if_neg (show ¬ ((gi σ (52 + 2 * a1.toNatClampNeg) 1).toInt < 0 ∨ (gi σ (52 + 2 * a3.toNatClampNeg) 1).toInt < 0) by omega)]
      by_cases e : (gi σ (52 + 2 * a1.toNatClampNeg) 1).toInt = (gi σ (52 + 2 * a3.toNatClampNeg) 1).toInt
      · rw [if_pos (i_eq e), if_pos e, F_hasPart p0 p1, fb_mk, ite_10]
        by_cases g : 0 ≤ a5.toInt ∧ 0 ≤ a2.toInt ∧ a2.toInt ≤ (gi σ (52 + 2 * a1.toNatClampNeg) 2).toInt - a5.toInt
        · rw [if_pos g, F_hasPart p2 p3, fb_mk, ite_10]
          by_cases g3 : 0 ≤ a5.toInt ∧ 0 ≤ a4.toInt ∧ a4.toInt ≤ (gi σ (52 + 2 * a3.toNatClampNeg) 2).toInt - a5.toInt
          · rw [if_pos g3, if_pos (And.intro g g3)]; rfl
          · rw [if_neg g3, if_neg (fun h => g3 h.2)]
        · rw [if_neg g, if_neg (fun h => g h.1)]
      · rw [if_neg (i_ne e), if_neg e]
    · rw [if_neg c3, if_neg (fun h => c3 h.2)]
  · rw [if_neg c, if_neg (fun h => c h.1)]
theorem LF_mshift1 {x1 x2 x3 x4 x5 : Int32} (h30 : 0 ≤ x3.toInt) (h35 : x3.toInt ≤ 5) (h40 : 0 ≤ x4.toInt) (h50 : 0 ≤ x5.toInt) (h45 : x4.toInt + x5.toInt ≤ 60) : ∀ (n : Nat) (x6 : Int32) (σ : Sg), 0 ≤ x6.toInt → x6.toInt ≤ x5.toInt → (60 - x6.toInt).toNat < n → LF_X12_shift n 1 x1 x2 x3 x4 x5 x6 σ = (x5, sla σ 173 (fun j => if 60 * x3.toNatClampNeg + x4.toNatClampNeg + x6.toNatClampNeg ≤ j ∧ j < 60 * x3.toNatClampNeg + x4.toNatClampNeg + x5.toNatClampNeg then gl σ 174 (j - (60 * x3.toNatClampNeg + x4.toNatClampNeg)) else gl σ 173 j)) := by
  intro n
  induction n generalizing x1 x2 with
  | zero => intro x6 σ _ _ h; exact absurd h (Nat.not_lt_zero _)
  | succ n ih =>
    intro x6 σ g0 g6 hn
    show LB_X12_shift_141 (LF_X12_shift n) x3 x4 x5 x6 σ = _
    have c3 := cl_eq h30
    have c4 := cl_eq h40
    have c5 := cl_eq h50
    have c6 := cl_eq g0
    unfold LB_X12_shift_141
    by_cases c : x5.toInt ≤ x6.toInt
    · rw [if_pos (i_le c), sla_self (fun j => by rw [if_neg (by omega)])]
    · rw [if_neg (i_nle (by omega))]
      have e1 : (x6 + 1).toInt = x6.toInt + 1 := i_add (y := (1 : Int32)) (by show (_ : Int) ≤ x6.toInt + 1; omega) (by show x6.toInt + 1 ≤ (_ : Int); omega)
      have ec1 := cl_eq (x := x6 + 1) (by omega)
      have k1 : ((60 : Int32) * x3).toInt = 60 * x3.toInt := i_mull rfl (by omega) (by omega)
      have k2 : (((60 : Int32) * x3) + x4).toInt = ((60 : Int32) * x3).toInt + x4.toInt := i_add (by show (_ : Int) ≤ ((60 : Int32) * x3).toInt + x4.toInt; omega) (by show ((60 : Int32) * x3).toInt + x4.toInt ≤ (_ : Int); omega)
      have k3 : ((((60 : Int32) * x3) + x4) + x6).toInt = (((60 : Int32) * x3) + x4).toInt + x6.toInt := i_add (by show (_ : Int) ≤ (((60 : Int32) * x3) + x4).toInt + x6.toInt; omega) (by show (((60 : Int32) * x3) + x4).toInt + x6.toInt ≤ (_ : Int); omega)
      have k4 := cl_eq (x := (((60 : Int32) * x3) + x4) + x6) (by omega)
      show LF_X12_shift n 1 0 0 x3 x4 x5 (x6 + 1) (sl σ 173 ((((60 : Int32) * x3) + x4) + x6).toNatClampNeg (gl σ 174 x6.toNatClampNeg)) = _
      rw [ih (x6 + 1) _ (by omega) (by omega) (by omega), sl_sla, sla_sla]
      congr 1
      refine sla_ext (fun j => ?_)
      rw [gl_sla, if_neg (show ¬ (174 : Nat) = 173 by decide), gl_sla, if_pos rfl]
      by_cases q : j = ((((60 : Int32) * x3) + x4) + x6).toNatClampNeg
      · rw [if_neg (by omega), if_pos q, if_pos (by omega), show j - (60 * x3.toNatClampNeg + x4.toNatClampNeg) = x6.toNatClampNeg by omega]
      · rw [if_neg q]
        by_cases q2 : 60 * x3.toNatClampNeg + x4.toNatClampNeg + x6.toNatClampNeg ≤ j ∧ j < 60 * x3.toNatClampNeg + x4.toNatClampNeg + x5.toNatClampNeg
        · rw [if_pos (by omega), if_pos q2]
        · rw [if_neg (by omega), if_neg q2]
theorem LF_mshift0 {x1 x2 x3 x4 x5 : Int32} (h10 : 0 ≤ x1.toInt) (h15 : x1.toInt ≤ 5) (h20 : 0 ≤ x2.toInt) (h25 : x2.toInt + x5.toInt ≤ 60) (h30 : 0 ≤ x3.toInt) (h35 : x3.toInt ≤ 5) (h40 : 0 ≤ x4.toInt) (h50 : 0 ≤ x5.toInt) (h45 : x4.toInt + x5.toInt ≤ 60) : ∀ (n : Nat) (x6 : Int32) (σ : Sg), 0 ≤ x6.toInt → x6.toInt ≤ x5.toInt → (60 - x6.toInt).toNat + 100 < n → LF_X12_shift n 0 x1 x2 x3 x4 x5 x6 σ = (x5, sla (sla σ 174 (fun j => if x6.toNatClampNeg ≤ j ∧ j < x5.toNatClampNeg then gl σ 173 (60 * x1.toNatClampNeg + x2.toNatClampNeg + j) else gl σ 174 j)) 173 (fun j => if 60 * x3.toNatClampNeg + x4.toNatClampNeg ≤ j ∧ j < 60 * x3.toNatClampNeg + x4.toNatClampNeg + x5.toNatClampNeg then (if x6.toNatClampNeg ≤ j - (60 * x3.toNatClampNeg + x4.toNatClampNeg) then gl σ 173 (60 * x1.toNatClampNeg + x2.toNatClampNeg + (j - (60 * x3.toNatClampNeg + x4.toNatClampNeg))) else gl σ 174 (j - (60 * x3.toNatClampNeg + x4.toNatClampNeg))) else gl σ 173 j)) := by
  intro n
  induction n with
  | zero => intro x6 σ _ _ h; exact absurd h (Nat.not_lt_zero _)
  | succ n ih =>
    intro x6 σ g0 g6 hn
    show LB_X12_shift_104 (LF_X12_shift n) x1 x2 x3 x4 x5 x6 σ = _
    have c1 := cl_eq h10
    have c2 := cl_eq h20
    have c3 := cl_eq h30
    have c4 := cl_eq h40
    have c5 := cl_eq h50
    have c6 := cl_eq g0
    have z : (0 : Int32).toNatClampNeg = 0 := by decide
    unfold LB_X12_shift_104
    by_cases c : x5.toInt ≤ x6.toInt
    · rw [if_pos (i_le c), LF_mshift1 h30 h35 h40 h50 h45 n 0 σ (by decide) (by show (0 : Int) ≤ _; omega) (by show (60 - (0 : Int)).toNat < n; omega), z]
      congr 1
      rw [sla_self (a := 174) (fun j => by rw [if_neg (by omega)])]
      refine sla_ext (fun j => ?_)
      by_cases q2 : 60 * x3.toNatClampNeg + x4.toNatClampNeg ≤ j ∧ j < 60 * x3.toNatClampNeg + x4.toNatClampNeg + x5.toNatClampNeg
      · rw [if_pos (by omega), if_pos q2, if_neg (by omega)]
      · rw [if_neg (by omega), if_neg q2]
    · rw [if_neg (i_nle (by omega))]
      have e1 : (x6 + 1).toInt = x6.toInt + 1 := i_add (y := (1 : Int32)) (by show (_ : Int) ≤ x6.toInt + 1; omega) (by show x6.toInt + 1 ≤ (_ : Int); omega)
      have ec1 := cl_eq (x := x6 + 1) (by omega)
      have k1 : ((60 : Int32) * x1).toInt = 60 * x1.toInt := i_mull rfl (by omega) (by omega)
      have k2 : (((60 : Int32) * x1) + x2).toInt = ((60 : Int32) * x1).toInt + x2.toInt := i_add (by show (_ : Int) ≤ ((60 : Int32) * x1).toInt + x2.toInt; omega) (by show ((60 : Int32) * x1).toInt + x2.toInt ≤ (_ : Int); omega)
      have k3 : ((((60 : Int32) * x1) + x2) + x6).toInt = (((60 : Int32) * x1) + x2).toInt + x6.toInt := i_add (by show (_ : Int) ≤ (((60 : Int32) * x1) + x2).toInt + x6.toInt; omega) (by show (((60 : Int32) * x1) + x2).toInt + x6.toInt ≤ (_ : Int); omega)
      have k4 := cl_eq (x := (((60 : Int32) * x1) + x2) + x6) (by omega)
      show LF_X12_shift n 0 x1 x2 x3 x4 x5 (x6 + 1) (sl σ 174 x6.toNatClampNeg (gl σ 173 ((((60 : Int32) * x1) + x2) + x6).toNatClampNeg)) = _
      rw [ih (x6 + 1) _ (by omega) (by omega) (by omega), sl_sla, sla_sla]
      have e6 : ((((60 : Int32) * x1) + x2) + x6).toNatClampNeg = 60 * x1.toNatClampNeg + x2.toNatClampNeg + x6.toNatClampNeg := by omega
      congr 1
      have ea : sla σ 174 (fun j => if (x6 + 1).toNatClampNeg ≤ j ∧ j < x5.toNatClampNeg then gl (sla σ 174 (fun j => if j = x6.toNatClampNeg then gl σ 173 ((((60 : Int32) * x1) + x2) + x6).toNatClampNeg else gl σ 174 j)) 173 (60 * x1.toNatClampNeg + x2.toNatClampNeg + j) else gl (sla σ 174 (fun j => if j = x6.toNatClampNeg then gl σ 173 ((((60 : Int32) * x1) + x2) + x6).toNatClampNeg else gl σ 174 j)) 174 j) = sla σ 174 (fun j => if x6.toNatClampNeg ≤ j ∧ j < x5.toNatClampNeg then gl σ 173 (60 * x1.toNatClampNeg + x2.toNatClampNeg + j) else gl σ 174 j) := by
        refine sla_ext (fun j => ?_)
        rw [gl_sla, if_neg (show ¬ (173 : Nat) = 174 by decide), gl_sla, if_pos rfl]
        by_cases q : j = x6.toNatClampNeg
        · rw [if_neg (by omega), if_pos q, if_pos (by omega), e6, q]
        · rw [if_neg q]
          by_cases q2 : x6.toNatClampNeg ≤ j ∧ j < x5.toNatClampNeg
          · rw [if_pos (by omega), if_pos q2]
          · rw [if_neg (by omega), if_neg q2]
      rw [ea]
      refine sla_ext (fun j => ?_)
      rw [gl_sla, if_neg (show ¬ (173 : Nat) = 174 by decide), gl_sla, if_pos rfl, gl_sla, if_neg (show ¬ (173 : Nat) = 174 by decide)]
      by_cases q2 : 60 * x3.toNatClampNeg + x4.toNatClampNeg ≤ j ∧ j < 60 * x3.toNatClampNeg + x4.toNatClampNeg + x5.toNatClampNeg
      · rw [if_pos q2, if_pos q2]
        by_cases q : j - (60 * x3.toNatClampNeg + x4.toNatClampNeg) = x6.toNatClampNeg
        · rw [if_neg (by omega), if_pos q, if_pos (by omega), e6, q]
        · rw [if_neg q]
          by_cases q3 : x6.toNatClampNeg ≤ j - (60 * x3.toNatClampNeg + x4.toNatClampNeg)
          · rw [if_pos (by omega), if_pos q3]
          · rw [if_neg (by omega), if_neg q3]
      · rw [if_neg q2, if_neg q2]
/-- the model's row behind a shift -/
noncomputable def SM (σ : Sg) (i j n : Nat) : Sg := sla (sla σ 174 (fun k => if k < n then gl σ 173 (i + k) else gl σ 174 k)) 173 (fun k => if j ≤ k ∧ k < j + n then gl σ 173 (i + (k - j)) else gl σ 173 k)
theorem LF_mshift {x1 x2 x3 x4 x5 : Int32} {σ : Sg} (h10 : 0 ≤ x1.toInt) (h15 : x1.toInt ≤ 5) (h20 : 0 ≤ x2.toInt) (h25 : x2.toInt + x5.toInt ≤ 60) (h30 : 0 ≤ x3.toInt) (h35 : x3.toInt ≤ 5) (h40 : 0 ≤ x4.toInt) (h50 : 0 ≤ x5.toInt) (h45 : x4.toInt + x5.toInt ≤ 60) : LF_X12_shift 300 0 x1 x2 x3 x4 x5 0 σ = (x5, SM σ (60 * x1.toNatClampNeg + x2.toNatClampNeg) (60 * x3.toNatClampNeg + x4.toNatClampNeg) x5.toNatClampNeg) := by
  rw [LF_mshift0 h10 h15 h20 h25 h30 h35 h40 h50 h45 300 0 σ (by decide) (by show (0 : Int) ≤ _; omega) (by decide)]
  have z : (0 : Int32).toNatClampNeg = 0 := by decide
  unfold SM
  congr 1
  have ea : sla σ 174 (fun j => if (0 : Int32).toNatClampNeg ≤ j ∧ j < x5.toNatClampNeg then gl σ 173 (60 * x1.toNatClampNeg + x2.toNatClampNeg + j) else gl σ 174 j) = sla σ 174 (fun k => if k < x5.toNatClampNeg then gl σ 173 (60 * x1.toNatClampNeg + x2.toNatClampNeg + k) else gl σ 174 k) := by
    refine sla_ext (fun j => ?_)
    by_cases q : j < x5.toNatClampNeg
    · rw [if_pos (by omega), if_pos q]
    · rw [if_neg (by omega), if_neg q]
  rw [ea]
  refine sla_ext (fun j => ?_)
  by_cases q2 : 60 * x3.toNatClampNeg + x4.toNatClampNeg ≤ j ∧ j < 60 * x3.toNatClampNeg + x4.toNatClampNeg + x5.toNatClampNeg
  · rw [if_pos q2, if_pos q2, if_pos (by omega)]
  · rw [if_neg q2, if_neg q2]
theorem N_mshift {a1 a2 a3 a4 a5 : Int32} {σ : Sg} (h0 : 0 ≤ a1.toInt → a1.toInt ≤ 5 → 0 ≤ (gi σ 172 a1.toNatClampNeg).toInt ∧ (gi σ 172 a1.toNatClampNeg).toInt ≤ 60) (h1 : 0 ≤ a3.toInt → a3.toInt ≤ 5 → 0 ≤ (gi σ 172 a3.toNatClampNeg).toInt ∧ (gi σ 172 a3.toNatClampNeg).toInt ≤ 60) : F_X12_shift a1 a2 a3 a4 a5 σ = if (0 ≤ a1.toInt ∧ a1.toInt ≤ 5) ∧ (0 ≤ a3.toInt ∧ a3.toInt ≤ 5) then (if (gi σ 171 a1.toNatClampNeg).toInt < 0 ∨ (gi σ 171 a3.toNatClampNeg).toInt < 0 then ((-11 : Int32), σ) else if (gi σ 171 a1.toNatClampNeg).toInt = (gi σ 171 a3.toNatClampNeg).toInt then (if (0 ≤ a5.toInt ∧ 0 ≤ a2.toInt ∧ a2.toInt ≤ (gi σ 172 a1.toNatClampNeg).toInt - a5.toInt) ∧ (0 ≤ a5.toInt ∧ 0 ≤ a4.toInt ∧ a4.toInt ≤ (gi σ 172 a3.toNatClampNeg).toInt - a5.toInt) then (a5, SM σ (60 * a1.toNatClampNeg + a2.toNatClampNeg) (60 * a3.toNatClampNeg + a4.toNatClampNeg) a5.toNatClampNeg) else ((-13 : Int32), σ)) else ((-12 : Int32), σ)) else ((-1 : Int32), σ) := by
  unfold F_X12_shift
  rw [F_misTape, fb_mk, ite_10]
  by_cases c : 0 ≤ a1.toInt ∧ a1.toInt ≤ 5
  · rw [if_pos c, F_misTape, fb_mk, ite_10]
    by_cases c3 : 0 ≤ a3.toInt ∧ a3.toInt ≤ 5
    · obtain ⟨p0, p1⟩ := h0 c.1 c.2
      obtain ⟨p2, p3⟩ := h1 c3.1 c3.2
      rw [if_pos c3, if_pos (And.intro c c3)]
      by_cases d : (gi σ 171 a1.toNatClampNeg).toInt < 0
      · rw [if_pos (i_lt0 d), if_pos (Or.inl d)]
      rw [if_neg (i_nlt0 (by omega))]
      by_cases d3 : (gi σ 171 a3.toNatClampNeg).toInt < 0
      · rw [if_neg (i_nle (a := (0 : Int32)) d3), if_pos (Or.inr d3)]
      rw [if_pos (i_le (a := (0 : Int32)) (b := gi σ 171 a3.toNatClampNeg) (by show (0 : Int) ≤ _; omega)), if_neg (show ¬ ((gi σ 171 a1.toNatClampNeg).toInt < 0 ∨ (gi σ 171 a3.toNatClampNeg).toInt < 0) by omega)]
      by_cases e : (gi σ 171 a1.toNatClampNeg).toInt = (gi σ 171 a3.toNatClampNeg).toInt
      · rw [if_pos (i_eq e), if_pos e]
        by_cases f5 : a5.toInt < 0
        · rw [if_pos (i_lt0 f5), if_neg (by omega)]
        rw [if_neg (i_nlt0 (by omega))]
        by_cases f2 : a2.toInt < 0
        · rw [if_pos (i_lt0 f2), if_neg (by omega)]
        rw [if_neg (i_nlt0 (by omega))]
        by_cases f4 : a4.toInt < 0
        · rw [if_pos (i_lt0 f4), if_neg (by omega)]
        rw [if_neg (i_nlt0 (by omega))]
        have e1 : ((gi σ 172 a1.toNatClampNeg) - a5).toInt = (gi σ 172 a1.toNatClampNeg).toInt - a5.toInt := i_sub (by show (_ : Int) ≤ (gi σ 172 a1.toNatClampNeg).toInt - a5.toInt; have := Int32.toInt_lt a5; omega) (by show (gi σ 172 a1.toNatClampNeg).toInt - a5.toInt ≤ (_ : Int); omega)
        have e3 : ((gi σ 172 a3.toNatClampNeg) - a5).toInt = (gi σ 172 a3.toNatClampNeg).toInt - a5.toInt := i_sub (by show (_ : Int) ≤ (gi σ 172 a3.toNatClampNeg).toInt - a5.toInt; have := Int32.toInt_lt a5; omega) (by show (gi σ 172 a3.toNatClampNeg).toInt - a5.toInt ≤ (_ : Int); omega)
        by_cases g : (gi σ 172 a1.toNatClampNeg).toInt - a5.toInt < a2.toInt
        · rw [if_pos (i_lt (by rw [e1]; exact g)), if_neg (by omega)]
        rw [if_neg (i_nlt (by rw [e1]; omega))]
        by_cases g3 : a4.toInt ≤ (gi σ 172 a3.toNatClampNeg).toInt - a5.toInt
        · rw [if_pos (i_le (by rw [e3]; exact g3)), if_pos (by omega), LF_mshift c.1 c.2 (by omega) (by omega) c3.1 c3.2 (by omega) (by omega) (by omega)]
        · rw [if_neg (i_nle (by rw [e3]; omega)), if_neg (by omega)]
      · rw [if_neg (i_ne e), if_neg e]
    · rw [if_neg c3, if_neg (fun h => c3 h.2)]
  · rw [if_neg c, if_neg (fun h => c h.1)]
theorem TAP_T {σ : Sg} {t : Nat} {s n : Int32} (q : TAP σ) (ht : t < 6) (hs : s.toInt < 0 → n.toInt = 0) : TAP (TM (TX σ (52 + 2 * t) s n) t s n) := by
  intro u hu
  obtain ⟨q1, q2, q3, q4⟩ := q u hu
  have A : ∀ k, gi (TM (TX σ (52 + 2 * t) s n) t s n) (52 + 2 * u) k = if u = t ∧ k = 2 then n else if u = t ∧ k = 1 then s else gi σ (52 + 2 * u) k := fun k => by
    unfold TM TX
    rw [gi_sla, gi_si, if_neg (by omega), gi_si, if_neg (by omega), gi_sla, gi_si, gi_si]
    by_cases e : u = t
    · subst e
      by_cases k2 : k = 2 <;> by_cases k1 : k = 1 <;> simp [k1, k2]
    · rw [if_neg (by omega), if_neg (by omega), if_neg (by omega), if_neg (by omega)]
  have B1 : gi (TM (TX σ (52 + 2 * t) s n) t s n) 171 u = if u = t then s else gi σ 171 u := by
    unfold TM TX
    rw [gi_sla, gi_si, if_neg (by omega), gi_si]
    by_cases e : u = t
    · rw [if_pos ⟨rfl, e⟩, if_pos e]
    · rw [if_neg (fun h => e h.2), if_neg e, gi_sla, gi_si, if_neg (by omega), gi_si, if_neg (by omega)]
  have B2 : gi (TM (TX σ (52 + 2 * t) s n) t s n) 172 u = if u = t then n else gi σ 172 u := by
    unfold TM TX
    rw [gi_sla, gi_si]
    by_cases e : u = t
    · rw [if_pos ⟨rfl, e⟩, if_pos e]
    · rw [if_neg (fun h => e h.2), if_neg e, gi_si, if_neg (by omega), gi_sla, gi_si, if_neg (by omega), gi_si, if_neg (by omega)]
  have C : ∀ i, i < 60 → gl (TM (TX σ (52 + 2 * t) s n) t s n) (52 + 2 * u + 1) i = if u = t then 0 else gl σ (52 + 2 * u + 1) i := fun i hi => by
    unfold TM TX
    rw [gl_sla, if_neg (by omega), gl_si, gl_si, gl_sla]
    by_cases e : u = t
    · rw [if_pos (by omega), if_pos hi, if_pos e]
    · rw [if_neg (by omega), if_neg e, gl_si, gl_si]
  have D : ∀ i, i < 60 → gl (TM (TX σ (52 + 2 * t) s n) t s n) 173 (60 * u + i) = if u = t then 0 else gl σ 173 (60 * u + i) := fun i hi => by
    unfold TM TX
    rw [gl_sla, if_pos rfl]
    by_cases e : u = t
    · rw [if_pos (by omega), if_pos e]
    · rw [if_neg (by omega), if_neg e, gl_sla, if_neg (by omega), gl_si, gl_si]
  refine ⟨?_, ?_, ?_, fun i hi => ?_⟩
  · rw [A, B1]
    by_cases e : u = t
    · rw [if_neg (by omega), if_pos ⟨e, rfl⟩, if_pos e]
    · rw [if_neg (by omega), if_neg (fun h => e h.1), if_neg e]; exact q1
  · rw [A, B2]
    by_cases e : u = t
    · rw [if_pos ⟨e, rfl⟩, if_pos e]
    · rw [if_neg (fun h => e h.1), if_neg (fun h => e h.1), if_neg e]; exact q2
  · rw [B1, B2]
    by_cases e : u = t
    · rw [if_pos e, if_pos e]; exact hs
    · rw [if_neg e, if_neg e]; exact q3
  · rw [C i hi, D i hi]
    by_cases e : u = t
    · rw [if_pos e, if_pos e]
    · rw [if_neg e, if_neg e]; exact q4 i hi
/-- tape: both answer alike, and hold alike then -/
theorem TAP_tape {a1 a2 a3 r1 r2 : Int32} {σ σ1 σ2 : Sg} (q : TAP σ) (h1 : F_X11_tape a1 a2 a3 σ = (r1, σ1)) (h2 : F_X12_tape a1 a2 a3 σ1 = (r2, σ2)) : r1 = r2 ∧ TAP σ2 := by
  rw [N_xtape] at h1
  rw [N_mtape] at h2
  by_cases c : 0 ≤ a1.toInt ∧ a1.toInt ≤ 5
  · rw [if_pos c] at h1 h2
    have ec := cl_eq c.1
    by_cases c1 : a2.toInt = -1
    · rw [if_pos c1] at h1 h2
      have ea : a2 = -1 := i_eq (b := (-1 : Int32)) c1
      obtain ⟨rfl, rfl⟩ := Prod.mk.inj h1
      obtain ⟨rfl, rfl⟩ := Prod.mk.inj h2
      rw [ea]
      exact ⟨rfl, TAP_T q (by omega) (fun _ => rfl)⟩
    rw [if_neg c1] at h1 h2
    by_cases c2 : a2.toInt < -1 ∨ 4 < a2.toInt ∨ 60 < a3.toInt
    · rw [if_pos c2] at h1 h2
      obtain ⟨rfl, rfl⟩ := Prod.mk.inj h1
      obtain ⟨rfl, rfl⟩ := Prod.mk.inj h2
      exact ⟨rfl, q⟩
    rw [if_neg c2] at h1 h2
    by_cases c3 : a3.toInt < 0
    · rw [if_pos c3] at h1 h2
      obtain ⟨rfl, rfl⟩ := Prod.mk.inj h1
      obtain ⟨rfl, rfl⟩ := Prod.mk.inj h2
      exact ⟨rfl, q⟩
    rw [if_neg c3] at h1 h2
    obtain ⟨rfl, rfl⟩ := Prod.mk.inj h1
    obtain ⟨rfl, rfl⟩ := Prod.mk.inj h2
    exact ⟨rfl, TAP_T q (by omega) (fun h => by omega)⟩
  · rw [if_neg c] at h1 h2
    obtain ⟨rfl, rfl⟩ := Prod.mk.inj h1
    obtain ⟨rfl, rfl⟩ := Prod.mk.inj h2
    exact ⟨rfl, q⟩
theorem TAP_I {σ : Sg} {t k : Nat} {v : Int64} (q : TAP σ) (ht : t < 6) (hk : k < 60) : TAP (sl (sl σ (52 + 2 * t + 1) k v) 173 (60 * t + k) v) := by
  intro u hu
  obtain ⟨q1, q2, q3, q4⟩ := q u hu
  refine ⟨q1, q2, q3, fun i hi => ?_⟩
  rw [gl_sl, if_neg (by omega), gl_sl, gl_sl]
  by_cases e : u = t ∧ i = k
  · rw [if_pos (by omega), if_pos (by omega)]
  · rw [if_neg (by omega), if_neg (by omega), gl_sl, if_neg (by omega)]; exact q4 i hi
theorem TAP_item {a1 a2 r1 r2 : Int32} {a3 : Int64} {σ σ1 σ2 : Sg} (hb : ∀ t : Nat, t < 6 → 0 ≤ (gi σ (52 + 2 * t) 2).toInt ∧ (gi σ (52 + 2 * t) 2).toInt ≤ 60) (q : TAP σ) (h1 : F_X11_item a1 a2 a3 σ = (r1, σ1)) (h2 : F_X12_item a1 a2 a3 σ1 = (r2, σ2)) : r1 = r2 ∧ TAP σ2 := by
  rw [N_xitem] at h1
  by_cases c : 0 ≤ a1.toInt ∧ a1.toInt ≤ 5
  · have ec := cl_eq c.1
    have ht : a1.toNatClampNeg < 6 := by omega
    obtain ⟨q1, q2, q3, q4⟩ := q _ ht
    obtain ⟨b1, b2⟩ := hb _ ht
    have e1 : gi σ1 171 a1.toNatClampNeg = gi σ 171 a1.toNatClampNeg ∧ gi σ1 172 a1.toNatClampNeg = gi σ 172 a1.toNatClampNeg := by
      rw [if_pos c] at h1
      by_cases d : (gi σ (52 + 2 * a1.toNatClampNeg) 1).toInt < 0
      · rw [if_pos d] at h1; obtain ⟨-, rfl⟩ := Prod.mk.inj h1; exact ⟨rfl, rfl⟩
      rw [if_neg d] at h1
      by_cases d2 : 0 ≤ a2.toInt ∧ a2.toInt < (gi σ (52 + 2 * a1.toNatClampNeg) 2).toInt
      · rw [if_pos d2] at h1; obtain ⟨-, rfl⟩ := Prod.mk.inj h1; exact ⟨rfl, rfl⟩
      · rw [if_neg d2] at h1; obtain ⟨-, rfl⟩ := Prod.mk.inj h1; exact ⟨rfl, rfl⟩
    rw [N_mitem (by rw [e1.2, ← q2]; exact b1) (by rw [e1.2, ← q2]; exact b2), e1.1, e1.2, ← q1, ← q2] at h2
    rw [if_pos c] at h1 h2
    by_cases d : (gi σ (52 + 2 * a1.toNatClampNeg) 1).toInt < 0
    · rw [if_pos d] at h1 h2
      obtain ⟨rfl, rfl⟩ := Prod.mk.inj h1
      obtain ⟨rfl, rfl⟩ := Prod.mk.inj h2
      exact ⟨rfl, q⟩
    rw [if_neg d] at h1 h2
    by_cases d2 : 0 ≤ a2.toInt ∧ a2.toInt < (gi σ (52 + 2 * a1.toNatClampNeg) 2).toInt
    · rw [if_pos d2] at h1 h2
      obtain ⟨rfl, rfl⟩ := Prod.mk.inj h1
      obtain ⟨rfl, rfl⟩ := Prod.mk.inj h2
      have ek := cl_eq d2.1
      exact ⟨rfl, TAP_I q ht (by omega)⟩
    · rw [if_neg d2] at h1 h2
      obtain ⟨rfl, rfl⟩ := Prod.mk.inj h1
      obtain ⟨rfl, rfl⟩ := Prod.mk.inj h2
      exact ⟨rfl, q⟩
  · rw [if_neg c] at h1
    obtain ⟨rfl, rfl⟩ := Prod.mk.inj h1
    unfold F_X12_item at h2
    rw [F_misTape, fb_mk, ite_10, if_neg c] at h2
    obtain ⟨rfl, rfl⟩ := Prod.mk.inj h2
    exact ⟨rfl, q⟩
/-- read: both answer alike -/
theorem TAP_read {a1 a2 : Int32} {r1 r2 : Int64} {σ σ1 σ2 : Sg} (hb : ∀ t : Nat, t < 6 → 0 ≤ (gi σ (52 + 2 * t) 2).toInt ∧ (gi σ (52 + 2 * t) 2).toInt ≤ 60) (q : TAP σ) (h1 : F_X11_read a1 a2 σ = (r1, σ1)) (h2 : F_X12_read a1 a2 σ1 = (r2, σ2)) : r1 = r2 := by
  rw [N_xread] at h1
  by_cases c : 0 ≤ a1.toInt ∧ a1.toInt ≤ 5
  · have ec := cl_eq c.1
    have ht : a1.toNatClampNeg < 6 := by omega
    obtain ⟨q1, q2, q3, q4⟩ := q _ ht
    obtain ⟨b1, b2⟩ := hb _ ht
    rw [if_pos c] at h1
    have e1 : σ1 = σ := by
      by_cases d2 : 0 ≤ a2.toInt ∧ a2.toInt < (gi σ (52 + 2 * a1.toNatClampNeg) 2).toInt
      · rw [if_pos d2] at h1; exact (Prod.mk.inj h1).2.symm
      · rw [if_neg d2] at h1; exact (Prod.mk.inj h1).2.symm
    subst e1
    rw [N_mread (by rw [← q2]; exact b1) (by rw [← q2]; exact b2), if_pos c, ← q2] at h2
    rw [← q2] at q3
    by_cases d2 : 0 ≤ a2.toInt ∧ a2.toInt < (gi σ1 (52 + 2 * a1.toNatClampNeg) 2).toInt
    · have ek := cl_eq d2.1
      rw [if_pos d2] at h1 h2
      rw [if_neg (fun h => by have := q3 h; omega)] at h2
      rw [← (Prod.mk.inj h1).1, ← (Prod.mk.inj h2).1]
      exact q4 _ (by omega)
    · rw [if_neg d2] at h1 h2
      rw [← (Prod.mk.inj h1).1]
      by_cases d : (gi σ1 171 a1.toNatClampNeg).toInt < 0
      · rw [if_pos d] at h2; exact (Prod.mk.inj h2).1
      · rw [if_neg d] at h2; exact (Prod.mk.inj h2).1
  · rw [if_neg c] at h1
    obtain ⟨rfl, rfl⟩ := Prod.mk.inj h1
    unfold F_X12_read at h2
    rw [F_misTape, fb_mk, ite_10, if_neg c] at h2
    exact (Prod.mk.inj h2).1
theorem TAP_S {σ : Sg} {t o i j n : Nat} (q : TAP σ) (ht : t < 6) (ho : o < 6) (hi : i + n ≤ 60) (hj : j + n ≤ 60) : TAP (SM (sla σ (52 + 2 * o + 1) (va_cpy (σ.2.1 (52 + 2 * t + 1)) (σ.2.1 (52 + 2 * o + 1)) i j n)) (60 * t + i) (60 * o + j) n) := by
  intro u hu
  obtain ⟨q1, q2, q3, q4⟩ := q u hu
  refine ⟨q1, q2, q3, fun k hk => ?_⟩
  unfold SM
  have e1 : ∀ g h : Nat → Int64, gl (sla (sla (sla σ (52 + 2 * o + 1) (va_cpy (σ.2.1 (52 + 2 * t + 1)) (σ.2.1 (52 + 2 * o + 1)) i j n)) 174 g) 173 h) (52 + 2 * u + 1) k = if 52 + 2 * u + 1 = 52 + 2 * o + 1 then va_cpy (σ.2.1 (52 + 2 * t + 1)) (σ.2.1 (52 + 2 * o + 1)) i j n k else gl σ (52 + 2 * u + 1) k := fun g h => by
    rw [gl_sla, if_neg (show ¬ 52 + 2 * u + 1 = 173 by omega), gl_sla, if_neg (show ¬ 52 + 2 * u + 1 = 174 by omega), gl_sla]
  have e2 : ∀ x, gl (sla σ (52 + 2 * o + 1) (va_cpy (σ.2.1 (52 + 2 * t + 1)) (σ.2.1 (52 + 2 * o + 1)) i j n)) 173 x = gl σ 173 x := fun x => by
    rw [gl_sla, if_neg (show ¬ 173 = 52 + 2 * o + 1 by omega)]
  rw [e1, gl_sla, if_pos (rfl : 173 = 173), e2]
  rw [e2]
  by_cases e : u = o
  · subst e
    rw [if_pos rfl]
    unfold va_cpy
    by_cases d : j ≤ k ∧ k < j + n
    · rw [if_pos d, if_pos (show 60 * u + j ≤ 60 * u + k ∧ 60 * u + k < 60 * u + j + n by omega), show 60 * t + i + (60 * u + k - (60 * u + j)) = 60 * t + (i + (k - j)) by omega]
      exact (q t ht).2.2.2 _ (by omega)
    · rw [if_neg d, if_neg (show ¬ (60 * u + j ≤ 60 * u + k ∧ 60 * u + k < 60 * u + j + n) by omega)]
      exact q4 k hk
  · rw [if_neg (show ¬ 52 + 2 * u + 1 = 52 + 2 * o + 1 by omega), if_neg (show ¬ (60 * o + j ≤ 60 * u + k ∧ 60 * u + k < 60 * o + j + n) by omega)]
    exact q4 k hk
theorem TAP_shift {a1 a2 a3 a4 a5 r1 r2 : Int32} {σ σ1 σ2 : Sg} (hb : ∀ t : Nat, t < 6 → 0 ≤ (gi σ (52 + 2 * t) 2).toInt ∧ (gi σ (52 + 2 * t) 2).toInt ≤ 60) (q : TAP σ) (h1 : F_X11_shift a1 a2 a3 a4 a5 σ = (r1, σ1)) (h2 : F_X12_shift a1 a2 a3 a4 a5 σ1 = (r2, σ2)) : r1 = r2 ∧ TAP σ2 := by
  have tl : ∀ {a : Int32}, 0 ≤ a.toInt → a.toInt ≤ 5 → a.toNatClampNeg < 6 := fun {a} g0 g5 => by
    have := cl_eq g0
    omega
  rw [N_xshift (fun g0 g5 => hb _ (tl g0 g5)) (fun g0 g5 => hb _ (tl g0 g5))] at h1
  have e1 : ∀ k, gi σ1 171 k = gi σ 171 k ∧ gi σ1 172 k = gi σ 172 k := by
    by_cases c : (0 ≤ a1.toInt ∧ a1.toInt ≤ 5) ∧ (0 ≤ a3.toInt ∧ a3.toInt ≤ 5)
    · rw [if_pos c] at h1
      by_cases d : (gi σ (52 + 2 * a1.toNatClampNeg) 1).toInt < 0 ∨ (gi σ (52 + 2 * a3.toNatClampNeg) 1).toInt < 0
      · rw [if_pos d] at h1; obtain ⟨-, rfl⟩ := Prod.mk.inj h1; exact fun _ => ⟨rfl, rfl⟩
      rw [if_neg d] at h1
      by_cases e : (gi σ (52 + 2 * a1.toNatClampNeg) 1).toInt = (gi σ (52 + 2 * a3.toNatClampNeg) 1).toInt
      · rw [if_pos e] at h1
        by_cases g : (0 ≤ a5.toInt ∧ 0 ≤ a2.toInt ∧ a2.toInt ≤ (gi σ (52 + 2 * a1.toNatClampNeg) 2).toInt - a5.toInt) ∧ (0 ≤ a5.toInt ∧ 0 ≤ a4.toInt ∧ a4.toInt ≤ (gi σ (52 + 2 * a3.toNatClampNeg) 2).toInt - a5.toInt)
        · rw [if_pos g] at h1; obtain ⟨-, rfl⟩ := Prod.mk.inj h1; exact fun _ => ⟨rfl, rfl⟩
        · rw [if_neg g] at h1; obtain ⟨-, rfl⟩ := Prod.mk.inj h1; exact fun _ => ⟨rfl, rfl⟩
      · rw [if_neg e] at h1; obtain ⟨-, rfl⟩ := Prod.mk.inj h1; exact fun _ => ⟨rfl, rfl⟩
    · rw [if_neg c] at h1; obtain ⟨-, rfl⟩ := Prod.mk.inj h1; exact fun _ => ⟨rfl, rfl⟩
  have hm : ∀ {a : Int32}, 0 ≤ a.toInt → a.toInt ≤ 5 → 0 ≤ (gi σ1 172 a.toNatClampNeg).toInt ∧ (gi σ1 172 a.toNatClampNeg).toInt ≤ 60 := fun {a} g0 g5 => by
    rw [(e1 _).2, ← (q _ (tl g0 g5)).2.1]
    exact hb _ (tl g0 g5)
  rw [N_mshift (fun g0 g5 => hm g0 g5) (fun g0 g5 => hm g0 g5)] at h2
  by_cases c : (0 ≤ a1.toInt ∧ a1.toInt ≤ 5) ∧ (0 ≤ a3.toInt ∧ a3.toInt ≤ 5)
  · have t1 := tl c.1.1 c.1.2
    have t3 := tl c.2.1 c.2.2
    rw [if_pos c, (e1 a1.toNatClampNeg).1, (e1 a1.toNatClampNeg).2, (e1 a3.toNatClampNeg).1, (e1 a3.toNatClampNeg).2, ← (q _ t1).1, ← (q _ t1).2.1, ← (q _ t3).1, ← (q _ t3).2.1] at h2
    rw [if_pos c] at h1
    obtain ⟨b1, b2⟩ := hb _ t1
    obtain ⟨b3, b4⟩ := hb _ t3
    by_cases d : (gi σ (52 + 2 * a1.toNatClampNeg) 1).toInt < 0 ∨ (gi σ (52 + 2 * a3.toNatClampNeg) 1).toInt < 0
    · rw [if_pos d] at h1 h2
      obtain ⟨rfl, rfl⟩ := Prod.mk.inj h1
      obtain ⟨rfl, rfl⟩ := Prod.mk.inj h2
      exact ⟨rfl, q⟩
    rw [if_neg d] at h1 h2
    by_cases e : (gi σ (52 + 2 * a1.toNatClampNeg) 1).toInt = (gi σ (52 + 2 * a3.toNatClampNeg) 1).toInt
    · rw [if_pos e] at h1 h2
      by_cases g : (0 ≤ a5.toInt ∧ 0 ≤ a2.toInt ∧ a2.toInt ≤ (gi σ (52 + 2 * a1.toNatClampNeg) 2).toInt - a5.toInt) ∧ (0 ≤ a5.toInt ∧ 0 ≤ a4.toInt ∧ a4.toInt ≤ (gi σ (52 + 2 * a3.toNatClampNeg) 2).toInt - a5.toInt)
      · rw [if_pos g] at h1 h2
        obtain ⟨rfl, rfl⟩ := Prod.mk.inj h1
        obtain ⟨rfl, rfl⟩ := Prod.mk.inj h2
        have k2 := cl_eq (x := a2) (by omega)
        have k4 := cl_eq (x := a4) (by omega)
        have k5 := cl_eq (x := a5) (by omega)
        exact ⟨rfl, TAP_S q t1 t3 (by omega) (by omega)⟩
      · rw [if_neg g] at h1 h2
        obtain ⟨rfl, rfl⟩ := Prod.mk.inj h1
        obtain ⟨rfl, rfl⟩ := Prod.mk.inj h2
        exact ⟨rfl, q⟩
    · rw [if_neg e] at h1 h2
      obtain ⟨rfl, rfl⟩ := Prod.mk.inj h1
      obtain ⟨rfl, rfl⟩ := Prod.mk.inj h2
      exact ⟨rfl, q⟩
  · rw [if_neg c] at h1 h2
    obtain ⟨rfl, rfl⟩ := Prod.mk.inj h1
    obtain ⟨rfl, rfl⟩ := Prod.mk.inj h2
    exact ⟨rfl, q⟩
