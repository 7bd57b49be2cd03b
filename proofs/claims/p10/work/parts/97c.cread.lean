/-! the class's reading of E is the reading by parts -/
noncomputable def encC : Tok → Int32
  | Sum.inl (f, s, n) => Int32.ofNat (f * 300 + s * 100 + n)
  | Sum.inr 0 => -1
  | Sum.inr 1 => -2
  | Sum.inr _ => -3
noncomputable abbrev NXo (nx : Nat → Int) (e : Nat) : Prop :=
  (e ≤ 100) ∧ (∀ p, e ≤ p → nx p = -1) ∧ (∀ p, p < e → 0 ≤ nx p ∧ nx p ≤ 127)
theorem NXo.le {nx : Nat → Int} {e : Nat} (h : NXo nx e) : e ≤ 100 := h.1
theorem NXo.hn {nx : Nat → Int} {e : Nat} (h : NXo nx e) : ∀ p, e ≤ p → nx p = -1 := h.2.1
theorem NXo.hb {nx : Nat → Int} {e : Nat} (h : NXo nx e) : ∀ p, p < e → 0 ≤ nx p ∧ nx p ≤ 127 := h.2.2
noncomputable def CDc (σ : Sg) (c0 : Nat) (L : List Tok) : Prop := (gi σ c0 4).toInt = (L.length : Int) ∧ ∀ j t, L[j]? = some t → gi σ (c0 + 1) j = encC t
/-- the field c0 reads the text nx of e signs, stands before sign p, and has written L -/
noncomputable abbrev RdC (nx : Nat → Int) (e c0 p : Nat) (L : List Tok) (σ : Sg) : Prop :=
  (gr σ c0 9 = some 50) ∧ ((gi σ c0 10).toInt = (e : Int)) ∧ (∀ q, q < e → (gi σ 50 q).toInt = nx q) ∧ ((gi σ c0 11).toInt = (p : Int)) ∧ (CDc σ c0 L) ∧ (p ≤ e) ∧ (L.length ≤ p)
theorem RdC.t {nx : Nat → Int} {e c0 p : Nat} {L : List Tok} {σ : Sg} (h : RdC nx e c0 p L σ) : gr σ c0 9 = some 50 := h.1
theorem RdC.en {nx : Nat → Int} {e c0 p : Nat} {L : List Tok} {σ : Sg} (h : RdC nx e c0 p L σ) : (gi σ c0 10).toInt = (e : Int) := h.2.1
theorem RdC.tx {nx : Nat → Int} {e c0 p : Nat} {L : List Tok} {σ : Sg} (h : RdC nx e c0 p L σ) : ∀ q, q < e → (gi σ 50 q).toInt = nx q := h.2.2.1
theorem RdC.at_ {nx : Nat → Int} {e c0 p : Nat} {L : List Tok} {σ : Sg} (h : RdC nx e c0 p L σ) : (gi σ c0 11).toInt = (p : Int) := h.2.2.2.1
theorem RdC.cd {nx : Nat → Int} {e c0 p : Nat} {L : List Tok} {σ : Sg} (h : RdC nx e c0 p L σ) : CDc σ c0 L := h.2.2.2.2.1
theorem RdC.le {nx : Nat → Int} {e c0 p : Nat} {L : List Tok} {σ : Sg} (h : RdC nx e c0 p L σ) : p ≤ e := h.2.2.2.2.2.1
theorem RdC.ll {nx : Nat → Int} {e c0 p : Nat} {L : List Tok} {σ : Sg} (h : RdC nx e c0 p L σ) : L.length ≤ p := h.2.2.2.2.2.2
noncomputable def FXc (c0 : Nat) (σ σ' : Sg) : Prop := FX (fun id => id = c0 + 1) (fun id k => id = c0 ∧ (k = 4 ∨ k = 11)) σ σ'
theorem FXc_rf {c0 : Nat} {σ : Sg} : FXc c0 σ σ := FX_rf
theorem FXc_tr {c0 : Nat} {σ σ1 σ2 : Sg} (f : FXc c0 σ σ1) (g : FXc c0 σ1 σ2) : FXc c0 σ σ2 := FX_tr f g (fun _ h => h) (fun _ _ h => Or.inr h)
theorem signC {nx e c0 p L σ} (hx : NXo nx e) (h : RdC nx e c0 p L σ) : ∃ r : Int32, F_X2_sign c0 σ = (r, σ) ∧ r.toInt = nx p := by
  unfold F_X2_sign
  rw [h.t]
  show ∃ r : Int32, (if (gi σ c0 10) ≤ (gi σ c0 11) then ((-1 : Int32), σ) else (gi σ 50 (gi σ c0 11).toNatClampNeg, σ)) = (r, σ) ∧ r.toInt = nx p
  have a := h.at_
  have b := h.en
  by_cases q : (gi σ c0 10) ≤ (gi σ c0 11)
  · have q' := Int32.le_iff_toInt_le.mp q
    rw [if_pos q]
    exact ⟨_, rfl, (hx.hn p (by omega)).symm⟩
  · have q' : ¬ (gi σ c0 10).toInt ≤ (gi σ c0 11).toInt := fun h9 => q (Int32.le_iff_toInt_le.mpr h9)
    rw [if_neg q]
    have ec := cl_eq (x := gi σ c0 11) (by omega)
    exact ⟨_, rfl, by rw [show (gi σ c0 11).toNatClampNeg = p from by omega]; exact h.tx p (by omega)⟩
/-- on by one sign -/
theorem advC {nx e c0 p L σ} (hx : NXo nx e) (hc : 69 ≤ c0) (h : RdC nx e c0 p L σ) (hp : p < e) : RdC nx e c0 (p + 1) L (si σ c0 11 ((gi σ c0 11) + (1 : Int32))) ∧ FXc c0 σ (si σ c0 11 ((gi σ c0 11) + (1 : Int32))) := by
  have a := h.at_
  have l := hx.le
  have t1 : ((gi σ c0 11) + (1 : Int32)).toInt = (gi σ c0 11).toInt + 1 := i_add (y := (1 : Int32)) (by show (_ : Int) ≤ (gi σ c0 11).toInt + 1; omega) (by show (gi σ c0 11).toInt + 1 ≤ (_ : Int); omega)
  refine ⟨⟨h.t, ?_, ?_, ?_, ⟨?_, ?_⟩, hp, Nat.le_succ_of_le h.ll⟩, FX_si FX_rf (Or.inr ⟨rfl, Or.inr rfl⟩)⟩
  · rw [gi_si_ne (Or.inr (by decide))]; exact h.en
  · intro q hq; rw [gi_si_ne (Or.inl (by omega))]; exact h.tx q hq
  · rw [gi_si_eq, t1]; omega
  · rw [gi_si_ne (Or.inr (by decide))]; exact h.cd.1
  · intro j t ht; rw [gi_si_ne (Or.inl (by omega))]; exact h.cd.2 j t ht
theorem ltC {nx e p} {c : Int} (hx : NXo nx e) (h : nx p = c) (hc : 0 ≤ c) : p < e := Nat.lt_of_not_le (fun h9 => by rw [hx.hn p h9] at h; omega)
theorem takesC_t {nx e c0 p L σ} {op : Int32} {c : Int} (hx : NXo nx e) (hc : 69 ≤ c0) (h : RdC nx e c0 p L σ) (ho : op.toInt = c) (h0 : 0 ≤ c) (q : nx p = c) : F_X2_takes c0 op σ = (1, si σ c0 11 ((gi σ c0 11) + (1 : Int32))) ∧ RdC nx e c0 (p + 1) L (si σ c0 11 ((gi σ c0 11) + (1 : Int32))) ∧ FXc c0 σ (si σ c0 11 ((gi σ c0 11) + (1 : Int32))) := by
  obtain ⟨r, e1, e2⟩ := signC hx h
  refine ⟨?_, advC hx hc h (ltC hx q h0)⟩
  unfold F_X2_takes
  rw [e1]
  show (if r = op then _ else _) = _
  rw [if_pos (Int32.toInt_inj.mp (by rw [e2, ho, q]))]
  rfl
theorem takesC_f {nx e c0 p L σ} {op : Int32} {c : Int} (hx : NXo nx e) (h : RdC nx e c0 p L σ) (ho : op.toInt = c) (q : ¬ nx p = c) : F_X2_takes c0 op σ = (0, σ) := by
  obtain ⟨r, e1, e2⟩ := signC hx h
  unfold F_X2_takes
  rw [e1]
  show (if r = op then _ else _) = _
  rw [if_neg (fun h9 => q (by rw [← e2, h9, ho]))]
/-- one sign of the code more -/
theorem writesC {nx e c0 p L σ} {v : Int32} {t : Tok} (hx : NXo nx e) (hc : 69 ≤ c0) (h : RdC nx e c0 p L σ) (hl : L.length < p) (hv : v = encC t) : RdC nx e c0 p (L ++ [t]) (F_X2_writes c0 v σ) ∧ FXc c0 σ (F_X2_writes c0 v σ) := by
  have a := h.cd.1
  have l := hx.le
  have l2 := h.le
  have z100 : (100 : Int32).toInt = 100 := rfl
  have q : ¬ (100 : Int32) ≤ gi σ c0 4 := fun h9 => by have := Int32.le_iff_toInt_le.mp h9; omega
  have ec := cl_eq (x := gi σ c0 4) (by omega)
  have ek : (gi σ c0 4).toNatClampNeg = L.length := by omega
  have t1 : ((gi σ c0 4) + (1 : Int32)).toInt = (gi σ c0 4).toInt + 1 := i_add (y := (1 : Int32)) (by show (_ : Int) ≤ (gi σ c0 4).toInt + 1; omega) (by show (gi σ c0 4).toInt + 1 ≤ (_ : Int); omega)
  have e1 : F_X2_writes c0 v σ = si (si σ (c0 + 1) L.length v) c0 4 ((gi σ c0 4) + (1 : Int32)) := by
    unfold F_X2_writes
    rw [if_neg q, ek]
    show si (si σ (c0 + 1) L.length v) c0 4 ((gi (si σ (c0 + 1) L.length v) c0 4) + (1 : Int32)) = _
    rw [gi_si_ne (Or.inl (by omega))]
  rw [e1]
  refine ⟨⟨h.t, ?_, ?_, ?_, ⟨?_, ?_⟩, h.le, ?_⟩, FX_si (FX_si FX_rf (Or.inl rfl)) (Or.inr ⟨rfl, Or.inl rfl⟩)⟩
  · rw [gi_si_ne (Or.inr (by decide)), gi_si_ne (Or.inl (by omega))]; exact h.en
  · intro q hq; rw [gi_si_ne (Or.inl (by omega)), gi_si_ne (Or.inl (by omega))]; exact h.tx q hq
  · rw [gi_si_ne (Or.inr (by decide)), gi_si_ne (Or.inl (by omega))]; exact h.at_
  · rw [gi_si_eq, t1, List.length_append]; show _ = ((L.length + 1 : Nat) : Int); omega
  · intro j t' ht
    rw [gi_si_ne (Or.inl (by omega)), gi_si]
    by_cases hj : j = L.length
    · rw [if_pos ⟨rfl, hj⟩, hv]
      rw [hj, List.getElem?_append_right (Nat.le_refl _), Nat.sub_self] at ht
      cases ht; rfl
    · rw [if_neg (fun h9 => hj h9.2)]
      have hj2 : j < L.length := by
        have := (List.getElem?_eq_some_iff.mp ht).1
        rw [List.length_append] at this
        have : j < L.length + 1 := this
        omega
      rw [List.getElem?_append_left hj2] at ht
      exact h.cd.2 j t' ht
  · rw [List.length_append]; exact hl
/-- f on σ is R -/
noncomputable def RCr (nx : Nat → Int) (e c0 p : Nat) (L : List Tok) (σ : Sg) (x : Int32 × Sg) (R : PRd) : Prop :=
  (R.1 = true → x.1 = 1 ∧ RdC nx e c0 R.2.1 (L ++ R.2.2) x.2 ∧ p + R.2.2.length ≤ R.2.1 ∧ p + 1 ≤ R.2.1) ∧ (R.1 = false → x.1 = 0 ∧ (gi x.2 c0 11).toInt = (R.2.1 : Int)) ∧ FXc c0 σ x.2
noncomputable def SpC (nx : Nat → Int) (e c0 : Nat) (f : Sg → Int32 × Sg) (g : Nat → PRd) : Prop := ∀ p L σ, RdC nx e c0 p L σ → RCr nx e c0 p L σ (f σ) (g p)
noncomputable def σd : Sg := (fun _ _ => 0, fun _ _ => 0, fun _ _ => none)
theorem ixL {a1 : Nat} {σ : Sg} : ∀ n x3 x4 x5, LF_J1_indexOfChar_4cfef a1 n x3 x4 x5 σ = ((LF_J1_indexOfChar_4cfef a1 n x3 x4 x5 σd).1, σ) := by
  intro n
  induction n with
  | zero => intro x3 x4 x5; rfl
  | succ n ih =>
    intro x3 x4 x5
    show LB_J1_indexOfChar_4cfef_7 a1 (LF_J1_indexOfChar_4cfef a1 n) x3 x4 x5 σ = ((LB_J1_indexOfChar_4cfef_7 a1 (LF_J1_indexOfChar_4cfef a1 n) x3 x4 x5 σd).1, σ)
    unfold LB_J1_indexOfChar_4cfef_7
    by_cases h1 : x3 ≤ x5
    · rw [if_pos h1, if_pos h1]
    · rw [if_neg h1, if_neg h1]
      by_cases h2 : sby a1 x5.toNatClampNeg = x4
      · rw [if_pos h2, if_pos h2]
      · rw [if_neg h2, if_neg h2]
        exact ih x3 x4 (x5 + 1)
theorem ixo {a1 : Nat} {ch : Int32} {σ : Sg} (h0 : ¬ ch < 0) (h1 : ¬ (255 : Int32) < ch) : F_J0_indexOf_0f7a4 a1 ch σ = ((F_J0_indexOf_0f7a4 a1 ch σd).1, σ) := by
  have e : ∀ τ : Sg, F_J0_indexOf_0f7a4 a1 ch τ = (if jmax (0 : Int32) (0 : Int32) < jmin (nI (slen a1)) (nI (slen a1)) then LF_J1_indexOfChar_4cfef a1 9 (jmin (nI (slen a1)) (nI (slen a1))) ch.toInt8.toInt32 (jmax (0 : Int32) (0 : Int32)) τ else ((-1 : Int32), τ)) := by
    intro τ
    unfold F_J0_indexOf_0f7a4 F_J0_indexOf_7cf53 F_J0_isLatin1_aae02
    show (F_J1_indexOf_4cfef a1 ch (0 : Int32) (nI (slen a1)) τ) = _
    unfold F_J1_indexOf_4cfef F_J1_canEncode_9a6ad
    rw [if_neg h0, if_neg h1]
    rfl
  rw [e σ, e σd]
  by_cases h : jmax (0 : Int32) (0 : Int32) < jmin (nI (slen a1)) (nI (slen a1))
  · rw [if_pos h, if_pos h]; exact ixL _ _ _ _
  · rw [if_neg h, if_neg h]
noncomputable def ltr (c : Int) : Option Nat := if c = 109 then some 0 else if c = 107 then some 1 else if c = 112 then some 2 else if c = 101 then some 3 else if c = 116 then some 4 else if c = 100 then some 5 else none
noncomputable def cmpn (c : Int) : Option Nat := if c = 60 then some 0 else if c = 61 then some 1 else if c = 62 then some 2 else none
noncomputable def wrd (c : Int) : Option Nat := if c = 102 then some 0 else if c = 115 then some 1 else if c = 103 then some 2 else if c = 116 then some 3 else if c = 108 then some 4 else none
noncomputable def oI (o : Option Nat) : Int32 := match o with | none => -1 | some f => Int32.ofNat f
theorem ixtab : ∀ n, n < 128 → ¬ (((Int32.ofNat n).toUInt32 % 65536).toInt32 < 0) ∧ ¬ ((255 : Int32) < ((Int32.ofNat n).toUInt32 % 65536).toInt32) ∧ (F_J0_indexOf_0f7a4 6 (((Int32.ofNat n).toUInt32 % 65536).toInt32) σd).1 = oI (ltr n) ∧ (F_J0_indexOf_0f7a4 7 (((Int32.ofNat n).toUInt32 % 65536).toInt32) σd).1 = oI (cmpn n) ∧ (F_J0_indexOf_0f7a4 0 (((Int32.ofNat n).toUInt32 % 65536).toInt32) σd).1 = oI (wrd n) := by decide +kernel
theorem nx_n {nx e p} (hx : NXo nx e) (hp : p < e) : ∃ n : Nat, n < 128 ∧ nx p = n := by
  obtain ⟨a, b⟩ := hx.hb p hp
  exact ⟨(nx p).toNat, by omega, by omega⟩
theorem amongC {nx e c0 p L σ} {a1 : Nat} {g : Int → Option Nat} (hx : NXo nx e) (h : RdC nx e c0 p L σ) (hg : g (-1) = none) (hT : ∀ n, n < 128 → (F_J0_indexOf_0f7a4 a1 (((Int32.ofNat n).toUInt32 % 65536).toInt32) σd).1 = oI (g n)) : F_X2_signAmong c0 a1 σ = (oI (g (nx p)), σ) := by
  obtain ⟨r, e1, e2⟩ := signC hx h
  unfold F_X2_signAmong
  rw [e1]
  show (if 0 ≤ r then fb (F_J0_indexOf_0f7a4 a1 ((r.toUInt32 % 65536).toInt32) σ) (fun r5 σ4 => (r5, σ4)) else ((-1 : Int32), σ)) = _
  by_cases q : 0 ≤ r
  · have q' : (0 : Int) ≤ r.toInt := Int32.le_iff_toInt_le.mp q
    have hp : p < e := Nat.lt_of_not_le (fun h9 => by rw [hx.hn p h9] at e2; omega)
    obtain ⟨n, hn, en⟩ := nx_n hx hp
    have er : r = Int32.ofNat n := by
      apply Int32.toInt_inj.mp
      rw [e2, en]
      exact (Int32.toInt_ofNat_of_lt (by omega)).symm
    rw [if_pos q, er]
    obtain ⟨t1, t2, -⟩ := ixtab n hn
    rw [ixo t1 t2, hT n hn, en]
    rfl
  · have q' : ¬ (0 : Int) ≤ r.toInt := fun h9 => q (Int32.le_iff_toInt_le.mpr h9)
    rw [if_neg q]
    have hp : nx p = -1 := by
      rw [e2] at q'
      by_cases hp : p < e
      · have := (hx.hb p hp).1; omega
      · exact hx.hn p (by omega)
    rw [hp, hg]
    rfl
theorem fb_e {α β : Type} {r : α} {s : Sg} {f : α → Sg → β} : fb (r, s) f = f r s := Eq.trans rfl rfl
theorem fl_e {α β : Type} {a : α} {f : α → β} : fl a f = f a := Eq.trans rfl rfl
noncomputable def dig (c : Int) : Bool := decide (48 ≤ c ∧ c ≤ 57)
/-- a number of one or two digits: whether, up to where, which -/
noncomputable def pnum (nx : Nat → Int) (p : Nat) : Bool × Nat × Nat :=
  if dig (nx p) = true then (if dig (nx (p + 1)) = true then (true, p + 2, 10 * (nx p - 48).toNat + (nx (p + 1) - 48).toNat) else (true, p + 1, (nx p - 48).toNat)) else (false, p, 0)
noncomputable def ptest (nx : Nat → Int) (p : Nat) : PRd :=
  match ltr (nx p) with
  | none => (false, p, [])
  | some f => match cmpn (nx (p + 1)) with
    | none => (false, p + 1, [])
    | some s => if (pnum nx (p + 2)).1 = true then (true, (pnum nx (p + 2)).2.1, [.T f s (pnum nx (p + 2)).2.2]) else (false, (pnum nx (p + 2)).2.1, [])
theorem digitC {nx e c0 p L σ} (hx : NXo nx e) (h : RdC nx e c0 p L σ) : F_X2_isDigit c0 σ = (if dig (nx p) = true then 1 else 0, σ) := by
  obtain ⟨r, e1, e2⟩ := signC hx h
  unfold F_X2_isDigit
  rw [e1]
  show (if r < (48 : Int32) then ((0 : Int32), σ) else fb (F_X2_sign c0 σ) (fun r5 σ4 => (if (57 : Int32) < r5 then ((0 : Int32), σ4) else ((1 : Int32), σ4)))) = _
  rw [e1]
  show (if r < (48 : Int32) then ((0 : Int32), σ) else (if (57 : Int32) < r then ((0 : Int32), σ) else ((1 : Int32), σ))) = _
  have z1 : (48 : Int32).toInt = 48 := rfl
  have z2 : (57 : Int32).toInt = 57 := rfl
  by_cases q1 : r < (48 : Int32)
  · have q1' := Int32.lt_iff_toInt_lt.mp q1
    rw [if_pos q1, if_neg (show ¬ dig (nx p) = true from fun h9 => by have := of_decide_eq_true h9; omega)]
  · have q1' : ¬ r.toInt < (48 : Int32).toInt := fun h9 => q1 (Int32.lt_iff_toInt_lt.mpr h9)
    rw [if_neg q1]
    by_cases q2 : (57 : Int32) < r
    · have q2' := Int32.lt_iff_toInt_lt.mp q2
      rw [if_pos q2, if_neg (show ¬ dig (nx p) = true from fun h9 => by have := of_decide_eq_true h9; omega)]
    · have q2' : ¬ (57 : Int32).toInt < r.toInt := fun h9 => q2 (Int32.lt_iff_toInt_lt.mpr h9)
      rw [if_neg q2, if_pos (show dig (nx p) = true from decide_eq_true (by omega))]
theorem numC {nx e c0 p L σ} (hx : NXo nx e) (hc : 69 ≤ c0) (h : RdC nx e c0 p L σ) :
    ((pnum nx p).1 = true → ∃ r σ', F_X2_readsNumber c0 σ = (r, σ') ∧ r.toInt = ((pnum nx p).2.2 : Int) ∧ (pnum nx p).2.2 ≤ 99 ∧ RdC nx e c0 (pnum nx p).2.1 L σ' ∧ FXc c0 σ σ' ∧ p + 1 ≤ (pnum nx p).2.1) ∧ ((pnum nx p).1 = false → F_X2_readsNumber c0 σ = (-1, σ) ∧ (pnum nx p).2.1 = p) := by
  unfold F_X2_readsNumber
  rw [digitC hx h]
  by_cases d0 : dig (nx p) = true
  · have b0 := of_decide_eq_true d0
    have hp : p < e := ltC hx rfl (by omega)
    obtain ⟨a1, a2⟩ := advC hx hc h hp
    obtain ⟨r, s1, s2⟩ := signC hx h
    have z48 : (48 : Int32).toInt = 48 := rfl
    have t1 : (r - (48 : Int32)).toInt = r.toInt - 48 := i_sub (y := (48 : Int32)) (by show (_ : Int) ≤ r.toInt - 48; omega) (by show r.toInt - 48 ≤ (_ : Int); omega)
    obtain ⟨σ7, e7⟩ : ∃ σ7, σ7 = si σ c0 11 ((gi σ c0 11) + (1 : Int32)) := ⟨_, rfl⟩
    rw [← e7] at a1 a2
    rw [if_pos d0]
    show _ ∧ _
    have E : fb ((1 : Int32), σ) (fun r2 σ1 => (if r2 = 0 then ((-1 : Int32), σ1) else fb (F_X2_sign c0 σ1) (fun r5 σ4 => fl (r5 - (48 : Int32)) (fun v6 => fl (si σ4 c0 11 ((gi σ4 c0 11) + (1 : Int32))) (fun σ7 => fb (F_X2_isDigit c0 σ7) (fun r9 σ8 => (if r9 = 0 then (v6, σ8) else fb (F_X2_sign c0 σ8) (fun r12 σ11 => fl ((((10 : Int32) * v6) + r12) - (48 : Int32)) (fun v13 => fl (si σ11 c0 11 ((gi σ11 c0 11) + (1 : Int32))) (fun σ14 => (v13, σ14)))))))))))
        = (if dig (nx (p + 1)) = true then fb (F_X2_sign c0 σ7) (fun r12 σ11 => fl ((((10 : Int32) * (r - (48 : Int32))) + r12) - (48 : Int32)) (fun v13 => fl (si σ11 c0 11 ((gi σ11 c0 11) + (1 : Int32))) (fun σ14 => (v13, σ14)))) else (r - (48 : Int32), σ7)) := by
      rw [fb_e, if_neg (show ¬ (1 : Int32) = 0 by decide), s1]
      simp only [fb_e, fl_e]
      rw [← e7, digitC hx a1]
      by_cases d1 : dig (nx (p + 1)) = true
      · rw [if_pos d1, if_pos d1, fb_e, if_neg (show ¬ (1 : Int32) = 0 by decide)]
      · rw [if_neg d1, if_neg d1]; rfl
    rw [E]
    by_cases d1 : dig (nx (p + 1)) = true
    · have b1 := of_decide_eq_true d1
      have hp1 : p + 1 < e := ltC hx rfl (by omega)
      obtain ⟨a3, a4⟩ := advC hx hc a1 hp1
      obtain ⟨r1, u1, u2⟩ := signC hx a1
      have ep : pnum nx p = (true, p + 2, 10 * (nx p - 48).toNat + (nx (p + 1) - 48).toNat) := by unfold pnum; rw [if_pos d0, if_pos d1]
      rw [ep, if_pos d1, u1]
      have m1 : ((10 : Int32) * (r - (48 : Int32))).toInt = 10 * (r - (48 : Int32)).toInt := i_mull rfl (by omega) (by omega)
      have m2 : (((10 : Int32) * (r - (48 : Int32))) + r1).toInt = ((10 : Int32) * (r - (48 : Int32))).toInt + r1.toInt := i_add (by omega) (by omega)
      have m3 : ((((10 : Int32) * (r - (48 : Int32))) + r1) - (48 : Int32)).toInt = (((10 : Int32) * (r - (48 : Int32))) + r1).toInt - 48 := i_sub (y := (48 : Int32)) (by show (_ : Int) ≤ (((10 : Int32) * (r - (48 : Int32))) + r1).toInt - 48; omega) (by show (((10 : Int32) * (r - (48 : Int32))) + r1).toInt - 48 ≤ (_ : Int); omega)
      refine ⟨fun _ => ⟨_, _, rfl, ?_, ?_, a3, FXc_tr a2 a4, by show p + 1 ≤ p + 2; omega⟩, fun h9 => by cases h9⟩
      · show ((((10 : Int32) * (r - (48 : Int32))) + r1) - (48 : Int32)).toInt = ((10 * (nx p - 48).toNat + (nx (p + 1) - 48).toNat : Nat) : Int)
        rw [m3, m2, m1, t1, s2, u2]; omega
      · show 10 * (nx p - 48).toNat + (nx (p + 1) - 48).toNat ≤ 99
        omega
    · have ep : pnum nx p = (true, p + 1, (nx p - 48).toNat) := by unfold pnum; rw [if_pos d0, if_neg d1]
      rw [ep, if_neg d1]
      refine ⟨fun _ => ⟨_, _, rfl, ?_, ?_, a1, a2, Nat.le_refl _⟩, fun h9 => by cases h9⟩
      · show (r - (48 : Int32)).toInt = ((nx p - 48).toNat : Int)
        rw [t1, s2]; omega
      · show (nx p - 48).toNat ≤ 99
        omega
  · have ep : pnum nx p = (false, p, 0) := by unfold pnum; rw [if_neg d0]
    rw [ep, if_neg d0]
    exact ⟨fun h9 => (by cases h9), fun _ => ⟨rfl, rfl⟩⟩
theorem oI_none : oI none = -1 := rfl
theorem ltr_lt {c : Int} {f : Nat} (h : ltr c = some f) : f ≤ 5 ∧ 0 ≤ c := by
  unfold ltr at h
  repeat' split at h
  all_goals first | (cases h; exact ⟨by decide, by omega⟩) | cases h
theorem cmp_lt {c : Int} {f : Nat} (h : cmpn c = some f) : f ≤ 2 ∧ 0 ≤ c := by
  unfold cmpn at h
  repeat' split at h
  all_goals first | (cases h; exact ⟨by decide, by omega⟩) | cases h
theorem oI_some {f : Nat} (h : f ≤ 5) : (oI (some f)).toInt = f := Int32.toInt_ofNat_of_lt (by omega)
theorem oI_ge {f : Nat} (h : f ≤ 5) : (0 : Int32) ≤ oI (some f) := Int32.le_iff_toInt_le.mpr (by rw [oI_some h]; show (0 : Int) ≤ _; omega)
theorem testC {nx e c0} (hx : NXo nx e) (hc : 69 ≤ c0) : SpC nx e c0 (F_X2_readsTest c0) (ptest nx) := by
  intro p L σ h
  have g1 := amongC (a1 := 6) (g := ltr) hx h rfl (fun n hn => (ixtab n hn).2.2.1)
  unfold F_X2_readsTest ptest
  rw [g1, fb_e]
  cases e1 : ltr (nx p) with
  | none =>
    rw [if_neg (show ¬ (0 : Int32) ≤ oI none by decide)]
    exact ⟨fun h9 => (by cases h9), fun _ => ⟨rfl, h.at_⟩, FXc_rf⟩
  | some f =>
    obtain ⟨f5, c0'⟩ := ltr_lt e1
    obtain ⟨a1, a2⟩ := advC hx hc h (ltC hx rfl c0')
    obtain ⟨σ4, e4⟩ : ∃ σ4, σ4 = si σ c0 11 ((gi σ c0 11) + (1 : Int32)) := ⟨_, rfl⟩
    rw [if_pos (oI_ge f5), ← e4, fl_e]
    rw [← e4] at a1 a2
    have g2 := amongC (a1 := 7) (g := cmpn) hx a1 rfl (fun n hn => (ixtab n hn).2.2.2.1)
    rw [g2, fb_e]
    show RCr nx e c0 p L σ _ (match cmpn (nx (p + 1)) with | none => (false, p + 1, []) | some s => if (pnum nx (p + 2)).1 = true then (true, (pnum nx (p + 2)).2.1, [.T f s (pnum nx (p + 2)).2.2]) else (false, (pnum nx (p + 2)).2.1, []))
    cases e2 : cmpn (nx (p + 1)) with
    | none =>
      rw [if_neg (show ¬ (0 : Int32) ≤ oI none by decide)]
      exact ⟨fun h9 => (by cases h9), fun _ => ⟨rfl, a1.at_⟩, a2⟩
    | some s =>
      obtain ⟨s2, c1'⟩ := cmp_lt e2
      obtain ⟨a3, a4⟩ := advC hx hc a1 (ltC hx rfl c1')
      obtain ⟨σ8, e8⟩ : ∃ σ8, σ8 = si σ4 c0 11 ((gi σ4 c0 11) + (1 : Int32)) := ⟨_, rfl⟩
      rw [if_pos (oI_ge (by omega)), ← e8, fl_e]
      rw [← e8] at a3 a4
      replace a3 : RdC nx e c0 (p + 2) L σ8 := a3
      have g3 := numC hx hc a3
      show RCr nx e c0 p L σ _ (if (pnum nx (p + 2)).1 = true then (true, (pnum nx (p + 2)).2.1, [.T f s (pnum nx (p + 2)).2.2]) else (false, (pnum nx (p + 2)).2.1, []))
      by_cases hn : (pnum nx (p + 2)).1 = true
      · obtain ⟨r, σ9, r1, r2, r3, r4, r5, r6⟩ := g3.1 hn
        have hr : (0 : Int32) ≤ r := Int32.le_iff_toInt_le.mpr (by rw [r2]; show (0 : Int) ≤ _; omega)
        rw [r1, fb_e, if_pos hr, if_pos hn, fl_e]
        have of := oI_some f5
        have os := oI_some (f := s) (by omega)
        have m1 : (oI (some f) * (300 : Int32)).toInt = (oI (some f)).toInt * 300 := i_mulr rfl (by omega) (by omega)
        have m2 : (oI (some s) * (100 : Int32)).toInt = (oI (some s)).toInt * 100 := i_mulr rfl (by omega) (by omega)
        have m3 : (oI (some f) * (300 : Int32) + oI (some s) * (100 : Int32)).toInt = (oI (some f) * (300 : Int32)).toInt + (oI (some s) * (100 : Int32)).toInt := i_add (by omega) (by omega)
        have m4 : (oI (some f) * (300 : Int32) + oI (some s) * (100 : Int32) + r).toInt = (oI (some f) * (300 : Int32) + oI (some s) * (100 : Int32)).toInt + r.toInt := i_add (by omega) (by omega)
        have ev : (oI (some f) * (300 : Int32) + oI (some s) * (100 : Int32) + r) = encC (.T f s (pnum nx (p + 2)).2.2) := by
          apply Int32.toInt_inj.mp
          show _ = (Int32.ofNat (f * 300 + s * 100 + (pnum nx (p + 2)).2.2)).toInt
          rw [Int32.toInt_ofNat_of_lt (by omega), m4, m3, m1, m2, of, os, r2]
          omega
        obtain ⟨w1, w2⟩ := writesC hx hc r4 (by have := h.ll; omega) ev
        refine ⟨fun _ => ⟨rfl, w1, ?_, ?_⟩, fun h9 => (by cases h9), FXc_tr a2 (FXc_tr a4 (FXc_tr r5 w2))⟩
        · show p + 1 ≤ (pnum nx (p + 2)).2.1; omega
        · show p + 1 ≤ (pnum nx (p + 2)).2.1; omega
      · have hn' : (pnum nx (p + 2)).1 = false := Bool.eq_false_iff.mpr hn
        obtain ⟨r1, r2⟩ := g3.2 hn'
        rw [r1, fb_e, if_neg (show ¬ (0 : Int32) ≤ -1 by decide), if_neg hn, r2]
        exact ⟨fun h9 => (by cases h9), fun _ => ⟨rfl, a3.at_⟩, FXc_tr a2 a4⟩
noncomputable def gLF (c0 : Nat) (f : Sg → Int32 × Sg) (op code : Int32) : Nat → Int32 → Sg → Int32 × Sg
  | 0, _, σ => (0, σ)
  | n + 1, x2, σ => if (100 : Int32) ≤ x2 then ((1 : Int32), σ) else fb (F_X2_takes c0 op σ) (fun r3 σ2 => (if r3 = 0 then ((1 : Int32), σ2) else fb (f σ2) (fun r6 σ5 => (if r6 = 0 then ((0 : Int32), σ5) else fl (F_X2_writes c0 code σ5) (fun σ8 => fl (x2 + 1) (fun v9 => gLF c0 f op code n v9 σ8))))))
noncomputable def RLr (nx : Nat → Int) (e c0 p : Nat) (L : List Tok) (σ : Sg) (x : Int32 × Sg) (R : PRd) : Prop :=
  (R.1 = true → x.1 = 1 ∧ RdC nx e c0 R.2.1 (L ++ R.2.2) x.2 ∧ p + R.2.2.length ≤ R.2.1) ∧ (R.1 = false → x.1 = 0 ∧ (gi x.2 c0 11).toInt = (R.2.1 : Int)) ∧ FXc c0 σ x.2
theorem loopC {nx e c0} {f : Sg → Int32 × Sg} {g : Nat → PRd} {op code : Int32} {c : Int} {tk : Tok} (hx : NXo nx e) (hc : 69 ≤ c0) (hf : SpC nx e c0 f g) (ho : op.toInt = c) (h0 : 0 ≤ c) (hv : code = encC tk) :
    ∀ n m p L σ x2 (i : Nat), x2.toInt = (i : Int) → i ≤ p → 101 ≤ n + i → e < m + p → RdC nx e c0 p L σ → RLr nx e c0 p L σ (gLF c0 f op code n x2 σ) (pch nx c tk g m p) := by
  intro n
  induction n with
  | zero => intro m p L σ x2 i h1 h2 h3 h4 h; have := h.le; have := hx.le; omega
  | succ n ih =>
    intro m p L σ x2 i h1 h2 h3 h4 h
    cases m with
    | zero => have := h.le; omega
    | succ m =>
      have z100 : (100 : Int32).toInt = 100 := rfl
      show RLr nx e c0 p L σ (if (100 : Int32) ≤ x2 then _ else _) (if nx p = c then _ else _)
      by_cases q : (100 : Int32) ≤ x2
      · have q' := Int32.le_iff_toInt_le.mp q
        have hn : nx p = -1 := hx.hn p (by have := hx.le; omega)
        rw [if_pos q, if_neg (show ¬ nx p = c by omega)]
        exact ⟨fun _ => ⟨rfl, by rw [List.append_nil]; exact h, Nat.le_refl _⟩, fun h9 => (by cases h9), FXc_rf⟩
      · have q' : ¬ (100 : Int32).toInt ≤ x2.toInt := fun h9 => q (Int32.le_iff_toInt_le.mpr h9)
        rw [if_neg q]
        by_cases hp : nx p = c
        · obtain ⟨t1, t2, t3⟩ := takesC_t hx hc h ho h0 hp
          rw [t1, fb_e, if_neg (show ¬ (1 : Int32) = 0 by decide), if_pos hp]
          have r := hf (p + 1) L _ t2
          by_cases hr : (g (p + 1)).1 = true
          · obtain ⟨u1, u2, u3, u4⟩ := r.1 hr
            have E : ∀ {y : Int32 × Sg} {A B : Int32 × Sg → Int32 × Sg}, y.1 = 1 → fb y (fun r6 σ5 => (if r6 = 0 then A (r6, σ5) else B (r6, σ5))) = B y := fun {y A B} hy => by
              show (if y.1 = 0 then A y else B y) = B y
              rw [if_neg (by rw [hy]; decide)]
            have hl : (L ++ (g (p + 1)).2.2).length < (g (p + 1)).2.1 := by rw [List.length_append]; have := h.ll; omega
            obtain ⟨w1, w2⟩ := writesC hx hc u2 hl hv
            have t9 : (x2 + (1 : Int32)).toInt = x2.toInt + 1 := i_add (y := (1 : Int32)) (by show (_ : Int) ≤ x2.toInt + 1; omega) (by show x2.toInt + 1 ≤ (_ : Int); omega)
            have k := ih m (g (p + 1)).2.1 _ _ (x2 + 1) (i + 1) (by rw [t9]; omega) (by omega) (by omega) (by omega) w1
            refine Eq.mpr (congrArg (fun z => RLr nx e c0 p L σ z _) (E (A := fun y => (0, y.2)) (B := fun y => gLF c0 f op code n (x2 + 1) (F_X2_writes c0 code y.2)) u1)) ?_
            rw [if_pos hr]
            refine ⟨fun h9 => ?_, fun h9 => k.2.1 h9, FXc_tr t3 (FXc_tr r.2.2 (FXc_tr w2 k.2.2))⟩
            obtain ⟨k1, k2, k3⟩ := k.1 h9
            refine ⟨k1, ?_, ?_⟩
            · simp only [List.append_assoc, List.cons_append, List.nil_append] at k2 ⊢
              exact k2
            · show p + ((g (p + 1)).2.2 ++ tk :: (pch nx c tk g m (g (p + 1)).2.1).2.2).length ≤ (pch nx c tk g m (g (p + 1)).2.1).2.1
              rw [List.length_append, List.length_cons]
              omega
          · have hr' : (g (p + 1)).1 = false := Bool.eq_false_iff.mpr hr
            obtain ⟨u1, u2⟩ := r.2.1 hr'
            have E : ∀ {y : Int32 × Sg} {A B : Int32 × Sg → Int32 × Sg}, y.1 = 0 → fb y (fun r6 σ5 => (if r6 = 0 then A (r6, σ5) else B (r6, σ5))) = A y := fun {y A B} hy => by
              show (if y.1 = 0 then A y else B y) = A y
              rw [if_pos hy]
            refine Eq.mpr (congrArg (fun z => RLr nx e c0 p L σ z _) (E (A := fun y => (0, y.2)) (B := fun y => gLF c0 f op code n (x2 + 1) (F_X2_writes c0 code y.2)) u1)) ?_
            rw [if_neg hr]
            exact ⟨fun h9 => (by cases h9), fun _ => ⟨rfl, u2⟩, FXc_tr t3 r.2.2⟩
        · rw [takesC_f hx h ho hp, fb_e, if_pos rfl, if_neg hp]
          exact ⟨fun _ => ⟨rfl, by rw [List.append_nil]; exact h, Nat.le_refl _⟩, fun h9 => (by cases h9), FXc_rf⟩
theorem chainC {nx e c0} {f F : Sg → Int32 × Sg} {g : Nat → PRd} {op code : Int32} {c : Int} {tk : Tok} (hx : NXo nx e) (hc : 69 ≤ c0) (hf : SpC nx e c0 f g) (ho : op.toInt = c) (h0 : 0 ≤ c) (hv : code = encC tk)
    (hF : ∀ σ, F σ = fb (f σ) (fun r2 σ1 => (if r2 = 0 then ((0 : Int32), σ1) else gLF c0 f op code 200 (0 : Int32) σ1))) : SpC nx e c0 F (pchain nx c tk g) := by
  intro p L σ h
  rw [hF σ]
  have r := hf p L σ h
  show RCr nx e c0 p L σ (if (f σ).1 = 0 then ((0 : Int32), (f σ).2) else gLF c0 f op code 200 (0 : Int32) (f σ).2) (if (g p).1 = true then _ else _)
  by_cases hr : (g p).1 = true
  · obtain ⟨u1, u2, u3, u4⟩ := r.1 hr
    have k := loopC hx hc hf ho h0 hv 200 101 (g p).2.1 _ _ (0 : Int32) 0 rfl (Nat.zero_le _) (by omega) (by have := hx.le; omega) u2
    rw [if_neg (by rw [u1]; decide), if_pos hr]
    refine ⟨fun h9 => ?_, fun h9 => k.2.1 h9, FXc_tr r.2.2 k.2.2⟩
    obtain ⟨k1, k2, k3⟩ := k.1 h9
    refine ⟨k1, ?_, ?_, ?_⟩
    · rw [List.append_assoc] at k2; exact k2
    · show p + ((g p).2.2 ++ (pch nx c tk g 101 (g p).2.1).2.2).length ≤ (pch nx c tk g 101 (g p).2.1).2.1
      rw [List.length_append]; omega
    · show p + 1 ≤ (pch nx c tk g 101 (g p).2.1).2.1
      omega
  · have hr' : (g p).1 = false := Bool.eq_false_iff.mpr hr
    obtain ⟨u1, u2⟩ := r.2.1 hr'
    rw [if_pos u1, if_neg hr]
    exact ⟨fun h9 => (by cases h9), fun _ => ⟨rfl, u2⟩, r.2.2⟩
noncomputable def gPart (c0 : Nat) (fp fe : Sg → Int32 × Sg) (σ : Sg) : Int32 × Sg := fb (F_X2_takes c0 (33 : Int32) σ) (fun r3 σ2 => (if r3 = 0 then fb (F_X2_takes c0 (40 : Int32) σ2) (fun r5 σ4 => (if r5 = 0 then fb (F_X2_readsTest c0 σ4) (fun r8 σ7 => (r8, σ7)) else fb (fe σ4) (fun r10 σ9 => (if r10 = 0 then ((0 : Int32), σ9) else fb (F_X2_takes c0 (41 : Int32) σ9) (fun r13 σ12 => (if r13 = 0 then ((0 : Int32), σ12) else ((1 : Int32), σ12))))))) else fb (fp σ2) (fun r6 σ5 => (if r6 = 0 then ((0 : Int32), σ5) else fl (F_X2_writes c0 (-1 : Int32) σ5) (fun σ8 => ((1 : Int32), σ8))))))
theorem partC {nx e c0 k} {fp fe F : Sg → Int32 × Sg} (hx : NXo nx e) (hc : 69 ≤ c0) (hp : SpC nx e c0 fp (ppart nx (ptest nx) k)) (he : SpC nx e c0 fe (peither nx (ppart nx (ptest nx) k))) (hF : ∀ σ, F σ = gPart c0 fp fe σ) : SpC nx e c0 F (ppart nx (ptest nx) (k + 1)) := by
  intro p L σ h
  rw [hF σ]
  unfold gPart
  show RCr nx e c0 p L σ _ (if nx p = 33 then (if (ppart nx (ptest nx) k (p + 1)).1 = true then (true, (ppart nx (ptest nx) k (p + 1)).2.1, (ppart nx (ptest nx) k (p + 1)).2.2 ++ [.N]) else (false, (ppart nx (ptest nx) k (p + 1)).2.1, []))
      else if nx p = 40 then (if (peither nx (ppart nx (ptest nx) k) (p + 1)).1 = true then (if nx (peither nx (ppart nx (ptest nx) k) (p + 1)).2.1 = 41 then (true, (peither nx (ppart nx (ptest nx) k) (p + 1)).2.1 + 1, (peither nx (ppart nx (ptest nx) k) (p + 1)).2.2) else (false, (peither nx (ppart nx (ptest nx) k) (p + 1)).2.1, [])) else (false, (peither nx (ppart nx (ptest nx) k) (p + 1)).2.1, []))
      else ptest nx p)
  by_cases h33 : nx p = 33
  · obtain ⟨t1, t2, t3⟩ := takesC_t hx hc h (op := 33) rfl (by decide) h33
    rw [t1, fb_e, if_neg (show ¬ (1 : Int32) = 0 by decide), if_pos h33]
    have r := hp (p + 1) L _ t2
    generalize ppart nx (ptest nx) k (p + 1) = R at r ⊢
    obtain ⟨y, hy⟩ : ∃ y, y = fp (si σ c0 11 ((gi σ c0 11) + (1 : Int32))) := ⟨_, rfl⟩
    rw [← hy] at r ⊢
    obtain ⟨y1, y2⟩ := y
    rw [fb_e]
    by_cases hr : R.1 = true
    · obtain ⟨u1, u2, u3, u4⟩ := r.1 hr
      replace u1 : y1 = 1 := u1
      have hl : (L ++ R.2.2).length < R.2.1 := by rw [List.length_append]; have := h.ll; omega
      obtain ⟨w1, w2⟩ := writesC hx hc u2 hl (v := -1) (t := .N) rfl
      rw [if_neg (by rw [u1]; decide), if_pos hr, fl_e]
      refine ⟨fun _ => ⟨rfl, ?_, ?_, ?_⟩, fun h9 => (by cases h9), FXc_tr t3 (FXc_tr r.2.2 w2)⟩
      · rw [List.append_assoc] at w1; exact w1
      · show p + (R.2.2 ++ [Tok.N]).length ≤ R.2.1
        rw [List.length_append]; show p + (R.2.2.length + 1) ≤ _; omega
      · show p + 1 ≤ R.2.1; omega
    · have hr' : R.1 = false := Bool.eq_false_iff.mpr hr
      obtain ⟨u1, u2⟩ := r.2.1 hr'
      replace u1 : y1 = 0 := u1
      rw [if_pos u1, if_neg hr]
      exact ⟨fun h9 => (by cases h9), fun _ => ⟨rfl, u2⟩, FXc_tr t3 r.2.2⟩
  · rw [takesC_f hx h (op := 33) rfl h33, fb_e, if_pos rfl, if_neg h33]
    by_cases h40 : nx p = 40
    · obtain ⟨t1, t2, t3⟩ := takesC_t hx hc h (op := 40) rfl (by decide) h40
      rw [t1, fb_e, if_neg (show ¬ (1 : Int32) = 0 by decide), if_pos h40]
      have r := he (p + 1) L _ t2
      generalize peither nx (ppart nx (ptest nx) k) (p + 1) = R at r ⊢
      obtain ⟨y, hy⟩ : ∃ y, y = fe (si σ c0 11 ((gi σ c0 11) + (1 : Int32))) := ⟨_, rfl⟩
      rw [← hy] at r ⊢
      obtain ⟨y1, y2⟩ := y
      rw [fb_e]
      by_cases hr : R.1 = true
      · obtain ⟨u1, u2, u3, u4⟩ := r.1 hr
        replace u1 : y1 = 1 := u1
        rw [if_neg (by rw [u1]; decide), if_pos hr]
        by_cases h41 : nx R.2.1 = 41
        · obtain ⟨v1, v2, v3⟩ := takesC_t hx hc u2 (op := 41) rfl (by decide) h41
          replace v1 : F_X2_takes c0 41 y2 = _ := v1
          rw [v1, fb_e, if_neg (show ¬ (1 : Int32) = 0 by decide), if_pos h41]
          refine ⟨fun _ => ⟨rfl, v2, ?_, ?_⟩, fun h9 => (by cases h9), FXc_tr t3 (FXc_tr r.2.2 v3)⟩
          · show p + R.2.2.length ≤ R.2.1 + 1; omega
          · show p + 1 ≤ R.2.1 + 1; omega
        · have v1 : F_X2_takes c0 41 y2 = _ := takesC_f hx u2 (op := 41) rfl h41
          rw [v1, fb_e, if_pos rfl, if_neg h41]
          exact ⟨fun h9 => (by cases h9), fun _ => ⟨rfl, u2.at_⟩, FXc_tr t3 r.2.2⟩
      · have hr' : R.1 = false := Bool.eq_false_iff.mpr hr
        obtain ⟨u1, u2⟩ := r.2.1 hr'
        replace u1 : y1 = 0 := u1
        rw [if_pos u1, if_neg hr]
        exact ⟨fun h9 => (by cases h9), fun _ => ⟨rfl, u2⟩, FXc_tr t3 r.2.2⟩
    · rw [takesC_f hx h (op := 40) rfl h40, fb_e, if_pos rfl, if_neg h40]
      exact testC hx hc p L σ h

theorem part_r4C {nx e c0} (hx : NXo nx e) (hc : 69 ≤ c0) : SpC nx e c0 (F_X2_readsPart_r4 c0 (4 : Int32)) (ppart nx (ptest nx) 0) := by
  intro p L σ h
  have e1 : F_X2_readsPart_r4 c0 (4 : Int32) σ = F_X2_readsTest c0 σ := by
    unfold F_X2_readsPart_r4
    rw [if_pos (by decide)]
    show LB_X2_readsPart_r4_33 c0 (LF_X2_readsPart_r4 c0 8) (4 : Int32) σ = _
    unfold LB_X2_readsPart_r4_33
    rw [if_pos (by decide)]
    rfl
  rw [e1]
  exact testC hx hc p L σ h
theorem both_r4L {c0 : Nat} : ∀ n x2 σ, LF_X2_readsBoth_r4 c0 n (4 : Int32) x2 σ = gLF c0 (F_X2_readsPart_r4 c0 (4 : Int32)) 38 (-2) n x2 σ := by
  intro n
  induction n with
  | zero => intro x2 σ; rfl
  | succ n ih =>
    intro x2 σ
    show LB_X2_readsBoth_r4_12 c0 (LF_X2_readsBoth_r4 c0 n) (4 : Int32) x2 σ = _
    unfold LB_X2_readsBoth_r4_12
    simp only [ih]
    rfl
theorem both_r4C {nx e c0} (hx : NXo nx e) (hc : 69 ≤ c0) : SpC nx e c0 (F_X2_readsBoth_r4 c0 (4 : Int32)) (pboth nx (ppart nx (ptest nx) 0)) :=
  chainC hx hc (part_r4C hx hc) (op := 38) rfl (by decide) (code := -2) (tk := .A) rfl (fun σ => by
    unfold F_X2_readsBoth_r4
    simp only [both_r4L])
theorem either_r4L {c0 : Nat} : ∀ n x2 σ, LF_X2_readsEither_r4 c0 n (4 : Int32) x2 σ = gLF c0 (F_X2_readsBoth_r4 c0 (4 : Int32)) 124 (-3) n x2 σ := by
  intro n
  induction n with
  | zero => intro x2 σ; rfl
  | succ n ih =>
    intro x2 σ
    show LB_X2_readsEither_r4_12 c0 (LF_X2_readsEither_r4 c0 n) (4 : Int32) x2 σ = _
    unfold LB_X2_readsEither_r4_12
    simp only [ih]
    rfl
theorem either_r4C {nx e c0} (hx : NXo nx e) (hc : 69 ≤ c0) : SpC nx e c0 (F_X2_readsEither_r4 c0 (4 : Int32)) (peither nx (ppart nx (ptest nx) 0)) :=
  chainC hx hc (both_r4C hx hc) (op := 124) rfl (by decide) (code := -3) (tk := .O) rfl (fun σ => by
    unfold F_X2_readsEither_r4
    simp only [either_r4L])
theorem part_r3C {nx e c0} (hx : NXo nx e) (hc : 69 ≤ c0) : SpC nx e c0 (F_X2_readsPart_r3 c0 (3 : Int32)) (ppart nx (ptest nx) 1) :=
  partC hx hc (part_r4C hx hc) (either_r4C hx hc) (fun σ => by
    unfold F_X2_readsPart_r3
    rw [if_neg (by decide), show (3 : Int32) + 1 = 4 from by decide]
    unfold gPart
    congr 1)
theorem both_r3L {c0 : Nat} : ∀ n x2 σ, LF_X2_readsBoth_r3 c0 n (3 : Int32) x2 σ = gLF c0 (F_X2_readsPart_r3 c0 (3 : Int32)) 38 (-2) n x2 σ := by
  intro n
  induction n with
  | zero => intro x2 σ; rfl
  | succ n ih =>
    intro x2 σ
    show LB_X2_readsBoth_r3_12 c0 (LF_X2_readsBoth_r3 c0 n) (3 : Int32) x2 σ = _
    unfold LB_X2_readsBoth_r3_12
    simp only [ih]
    rfl
theorem both_r3C {nx e c0} (hx : NXo nx e) (hc : 69 ≤ c0) : SpC nx e c0 (F_X2_readsBoth_r3 c0 (3 : Int32)) (pboth nx (ppart nx (ptest nx) 1)) :=
  chainC hx hc (part_r3C hx hc) (op := 38) rfl (by decide) (code := -2) (tk := .A) rfl (fun σ => by
    unfold F_X2_readsBoth_r3
    simp only [both_r3L])
theorem either_r3L {c0 : Nat} : ∀ n x2 σ, LF_X2_readsEither_r3 c0 n (3 : Int32) x2 σ = gLF c0 (F_X2_readsBoth_r3 c0 (3 : Int32)) 124 (-3) n x2 σ := by
  intro n
  induction n with
  | zero => intro x2 σ; rfl
  | succ n ih =>
    intro x2 σ
    show LB_X2_readsEither_r3_12 c0 (LF_X2_readsEither_r3 c0 n) (3 : Int32) x2 σ = _
    unfold LB_X2_readsEither_r3_12
    simp only [ih]
    rfl
theorem either_r3C {nx e c0} (hx : NXo nx e) (hc : 69 ≤ c0) : SpC nx e c0 (F_X2_readsEither_r3 c0 (3 : Int32)) (peither nx (ppart nx (ptest nx) 1)) :=
  chainC hx hc (both_r3C hx hc) (op := 124) rfl (by decide) (code := -3) (tk := .O) rfl (fun σ => by
    unfold F_X2_readsEither_r3
    simp only [either_r3L])
theorem part_r2C {nx e c0} (hx : NXo nx e) (hc : 69 ≤ c0) : SpC nx e c0 (F_X2_readsPart_r2 c0 (2 : Int32)) (ppart nx (ptest nx) 2) :=
  partC hx hc (part_r3C hx hc) (either_r3C hx hc) (fun σ => by
    unfold F_X2_readsPart_r2
    rw [if_neg (by decide), show (2 : Int32) + 1 = 3 from by decide]
    unfold gPart
    congr 1)
theorem both_r2L {c0 : Nat} : ∀ n x2 σ, LF_X2_readsBoth_r2 c0 n (2 : Int32) x2 σ = gLF c0 (F_X2_readsPart_r2 c0 (2 : Int32)) 38 (-2) n x2 σ := by
  intro n
  induction n with
  | zero => intro x2 σ; rfl
  | succ n ih =>
    intro x2 σ
    show LB_X2_readsBoth_r2_12 c0 (LF_X2_readsBoth_r2 c0 n) (2 : Int32) x2 σ = _
    unfold LB_X2_readsBoth_r2_12
    simp only [ih]
    rfl
theorem both_r2C {nx e c0} (hx : NXo nx e) (hc : 69 ≤ c0) : SpC nx e c0 (F_X2_readsBoth_r2 c0 (2 : Int32)) (pboth nx (ppart nx (ptest nx) 2)) :=
  chainC hx hc (part_r2C hx hc) (op := 38) rfl (by decide) (code := -2) (tk := .A) rfl (fun σ => by
    unfold F_X2_readsBoth_r2
    simp only [both_r2L])
theorem either_r2L {c0 : Nat} : ∀ n x2 σ, LF_X2_readsEither_r2 c0 n (2 : Int32) x2 σ = gLF c0 (F_X2_readsBoth_r2 c0 (2 : Int32)) 124 (-3) n x2 σ := by
  intro n
  induction n with
  | zero => intro x2 σ; rfl
  | succ n ih =>
    intro x2 σ
    show LB_X2_readsEither_r2_12 c0 (LF_X2_readsEither_r2 c0 n) (2 : Int32) x2 σ = _
    unfold LB_X2_readsEither_r2_12
    simp only [ih]
    rfl
theorem either_r2C {nx e c0} (hx : NXo nx e) (hc : 69 ≤ c0) : SpC nx e c0 (F_X2_readsEither_r2 c0 (2 : Int32)) (peither nx (ppart nx (ptest nx) 2)) :=
  chainC hx hc (both_r2C hx hc) (op := 124) rfl (by decide) (code := -3) (tk := .O) rfl (fun σ => by
    unfold F_X2_readsEither_r2
    simp only [either_r2L])
theorem part_r1C {nx e c0} (hx : NXo nx e) (hc : 69 ≤ c0) : SpC nx e c0 (F_X2_readsPart_r1 c0 (1 : Int32)) (ppart nx (ptest nx) 3) :=
  partC hx hc (part_r2C hx hc) (either_r2C hx hc) (fun σ => by
    unfold F_X2_readsPart_r1
    rw [if_neg (by decide), show (1 : Int32) + 1 = 2 from by decide]
    unfold gPart
    congr 1)
theorem both_r1L {c0 : Nat} : ∀ n x2 σ, LF_X2_readsBoth_r1 c0 n (1 : Int32) x2 σ = gLF c0 (F_X2_readsPart_r1 c0 (1 : Int32)) 38 (-2) n x2 σ := by
  intro n
  induction n with
  | zero => intro x2 σ; rfl
  | succ n ih =>
    intro x2 σ
    show LB_X2_readsBoth_r1_12 c0 (LF_X2_readsBoth_r1 c0 n) (1 : Int32) x2 σ = _
    unfold LB_X2_readsBoth_r1_12
    simp only [ih]
    rfl
theorem both_r1C {nx e c0} (hx : NXo nx e) (hc : 69 ≤ c0) : SpC nx e c0 (F_X2_readsBoth_r1 c0 (1 : Int32)) (pboth nx (ppart nx (ptest nx) 3)) :=
  chainC hx hc (part_r1C hx hc) (op := 38) rfl (by decide) (code := -2) (tk := .A) rfl (fun σ => by
    unfold F_X2_readsBoth_r1
    simp only [both_r1L])
theorem either_r1L {c0 : Nat} : ∀ n x2 σ, LF_X2_readsEither_r1 c0 n (1 : Int32) x2 σ = gLF c0 (F_X2_readsBoth_r1 c0 (1 : Int32)) 124 (-3) n x2 σ := by
  intro n
  induction n with
  | zero => intro x2 σ; rfl
  | succ n ih =>
    intro x2 σ
    show LB_X2_readsEither_r1_12 c0 (LF_X2_readsEither_r1 c0 n) (1 : Int32) x2 σ = _
    unfold LB_X2_readsEither_r1_12
    simp only [ih]
    rfl
theorem either_r1C {nx e c0} (hx : NXo nx e) (hc : 69 ≤ c0) : SpC nx e c0 (F_X2_readsEither_r1 c0 (1 : Int32)) (peither nx (ppart nx (ptest nx) 3)) :=
  chainC hx hc (both_r1C hx hc) (op := 124) rfl (by decide) (code := -3) (tk := .O) rfl (fun σ => by
    unfold F_X2_readsEither_r1
    simp only [either_r1L])
theorem part_r0C {nx e c0} (hx : NXo nx e) (hc : 69 ≤ c0) : SpC nx e c0 (F_X2_readsPart_r0 c0 (0 : Int32)) (ppart nx (ptest nx) 4) :=
  partC hx hc (part_r1C hx hc) (either_r1C hx hc) (fun σ => by
    unfold F_X2_readsPart_r0
    rw [if_neg (by decide), show (0 : Int32) + 1 = 1 from by decide]
    unfold gPart
    congr 1)
theorem both_r0L {c0 : Nat} : ∀ n x2 σ, LF_X2_readsBoth_r0 c0 n (0 : Int32) x2 σ = gLF c0 (F_X2_readsPart_r0 c0 (0 : Int32)) 38 (-2) n x2 σ := by
  intro n
  induction n with
  | zero => intro x2 σ; rfl
  | succ n ih =>
    intro x2 σ
    show LB_X2_readsBoth_r0_12 c0 (LF_X2_readsBoth_r0 c0 n) (0 : Int32) x2 σ = _
    unfold LB_X2_readsBoth_r0_12
    simp only [ih]
    rfl
theorem both_r0C {nx e c0} (hx : NXo nx e) (hc : 69 ≤ c0) : SpC nx e c0 (F_X2_readsBoth_r0 c0 (0 : Int32)) (pboth nx (ppart nx (ptest nx) 4)) :=
  chainC hx hc (part_r0C hx hc) (op := 38) rfl (by decide) (code := -2) (tk := .A) rfl (fun σ => by
    unfold F_X2_readsBoth_r0
    simp only [both_r0L])
theorem either_r0L {c0 : Nat} : ∀ n x2 σ, LF_X2_readsEither_r0 c0 n (0 : Int32) x2 σ = gLF c0 (F_X2_readsBoth_r0 c0 (0 : Int32)) 124 (-3) n x2 σ := by
  intro n
  induction n with
  | zero => intro x2 σ; rfl
  | succ n ih =>
    intro x2 σ
    show LB_X2_readsEither_r0_12 c0 (LF_X2_readsEither_r0 c0 n) (0 : Int32) x2 σ = _
    unfold LB_X2_readsEither_r0_12
    simp only [ih]
    rfl
theorem either_r0C {nx e c0} (hx : NXo nx e) (hc : 69 ≤ c0) : SpC nx e c0 (F_X2_readsEither_r0 c0 (0 : Int32)) (peither nx (ppart nx (ptest nx) 4)) :=
  chainC hx hc (both_r0C hx hc) (op := 124) rfl (by decide) (code := -3) (tk := .O) rfl (fun σ => by
    unfold F_X2_readsEither_r0
    simp only [either_r0L])
