/-! the model's reading of E is the reading by a pile -/
noncomputable def encM : Tok → Int32
  | Sum.inl (f, s, n) => Int32.ofNat (f * 1000 + s * 100 + n)
  | Sum.inr 0 => -33
  | Sum.inr 1 => -38
  | Sum.inr _ => -124
noncomputable def WSm (σ : Sg) : Nat → List Int → Prop
  | 0, [] => True
  | n + 1, b :: S => (gi σ 123 n).toInt = b ∧ WSm σ n S
  | _, _ => False
/-- the model reads the text nx of e signs, stands before sign p, has written L from place b on, S lies on the pile -/
noncomputable abbrev RdM (nx : Nat → Int) (e b p : Nat) (L : List Tok) (S : List Int) (σ : Sg) : Prop :=
  ((gi σ 74 13).toInt = (e : Int)) ∧ (∀ q, q < e → (gi σ 116 q).toInt = nx q) ∧ ((gi σ 74 14).toInt = (p : Int)) ∧ ((gi σ 74 24).toInt = ((b + L.length : Nat) : Int)) ∧ (∀ j t, L[j]? = some t → gi σ 122 (b + j) = encM t) ∧ ((gi σ 74 25).toInt = (S.length : Int)) ∧ (WSm σ S.length S) ∧ ((gi σ 74 26).toInt = (opn S : Int)) ∧ (p ≤ e) ∧ (b ≤ 1000) ∧ (L.length + S.length ≤ 300)
theorem RdM.en {nx : Nat → Int} {e b p : Nat} {L : List Tok} {S : List Int} {σ : Sg} (h : RdM nx e b p L S σ) : (gi σ 74 13).toInt = (e : Int) := h.1
theorem RdM.tx {nx : Nat → Int} {e b p : Nat} {L : List Tok} {S : List Int} {σ : Sg} (h : RdM nx e b p L S σ) : ∀ q, q < e → (gi σ 116 q).toInt = nx q := h.2.1
theorem RdM.at_ {nx : Nat → Int} {e b p : Nat} {L : List Tok} {S : List Int} {σ : Sg} (h : RdM nx e b p L S σ) : (gi σ 74 14).toInt = (p : Int) := h.2.2.1
theorem RdM.cn {nx : Nat → Int} {e b p : Nat} {L : List Tok} {S : List Int} {σ : Sg} (h : RdM nx e b p L S σ) : (gi σ 74 24).toInt = ((b + L.length : Nat) : Int) := h.2.2.2.1
theorem RdM.cd {nx : Nat → Int} {e b p : Nat} {L : List Tok} {S : List Int} {σ : Sg} (h : RdM nx e b p L S σ) : ∀ j t, L[j]? = some t → gi σ 122 (b + j) = encM t := h.2.2.2.2.1
theorem RdM.wn {nx : Nat → Int} {e b p : Nat} {L : List Tok} {S : List Int} {σ : Sg} (h : RdM nx e b p L S σ) : (gi σ 74 25).toInt = (S.length : Int) := h.2.2.2.2.2.1
theorem RdM.ws {nx : Nat → Int} {e b p : Nat} {L : List Tok} {S : List Int} {σ : Sg} (h : RdM nx e b p L S σ) : WSm σ S.length S := h.2.2.2.2.2.2.1
theorem RdM.op {nx : Nat → Int} {e b p : Nat} {L : List Tok} {S : List Int} {σ : Sg} (h : RdM nx e b p L S σ) : (gi σ 74 26).toInt = (opn S : Int) := h.2.2.2.2.2.2.2.1
theorem RdM.le {nx : Nat → Int} {e b p : Nat} {L : List Tok} {S : List Int} {σ : Sg} (h : RdM nx e b p L S σ) : p ≤ e := h.2.2.2.2.2.2.2.2.1
theorem RdM.bb {nx : Nat → Int} {e b p : Nat} {L : List Tok} {S : List Int} {σ : Sg} (h : RdM nx e b p L S σ) : b ≤ 1000 := h.2.2.2.2.2.2.2.2.2.1
theorem RdM.ll {nx : Nat → Int} {e b p : Nat} {L : List Tok} {S : List Int} {σ : Sg} (h : RdM nx e b p L S σ) : L.length + S.length ≤ 300 := h.2.2.2.2.2.2.2.2.2.2
noncomputable def FXm (b : Nat) (σ σ' : Sg) : Prop := FX (fun id => id = 123) (fun id k => (id = 74 ∧ (k = 14 ∨ k = 15 ∨ k = 24 ∨ k = 25 ∨ k = 26)) ∨ (id = 122 ∧ b ≤ k)) σ σ'
theorem FXm_rf {b : Nat} {σ : Sg} : FXm b σ σ := FX_rf
theorem FXm_tr {b : Nat} {σ σ1 σ2 : Sg} (f : FXm b σ σ1) (g : FXm b σ1 σ2) : FXm b σ σ2 := FX_tr f g (fun _ h => h) (fun _ _ h => Or.inr h)
theorem WSm_si {σ : Sg} {a k : Nat} {v : Int32} (h : a ≠ 123) : ∀ n S, WSm σ n S → WSm (si σ a k v) n S := by
  intro n
  induction n with
  | zero => intro S; cases S <;> exact id
  | succ n ih =>
    intro S
    cases S with
    | nil => exact id
    | cons b S => exact fun w => ⟨by rw [gi_si_ne (Or.inl (Ne.symm h))]; exact w.1, ih S w.2⟩
theorem WSm_up {σ : Sg} {k : Nat} {v : Int32} : ∀ n S, n ≤ k → WSm σ n S → WSm (si σ 123 k v) n S := by
  intro n
  induction n with
  | zero => intro S _; cases S <;> exact id
  | succ n ih =>
    intro S hk
    cases S with
    | nil => exact id
    | cons b S => exact fun w => ⟨by rw [gi_si_ne (Or.inr (by omega))]; exact w.1, ih S (by omega) w.2⟩
theorem nextM {nx e b p L S σ} (hx : NXo nx e) (h : RdM nx e b p L S σ) : ∃ r : Int32, F_X12_next σ = (r, σ) ∧ r.toInt = nx p := by
  unfold F_X12_next
  have a := h.at_
  have b := h.en
  by_cases q : (gi σ 74 13) ≤ (gi σ 74 14)
  · have q' := Int32.le_iff_toInt_le.mp q
    rw [if_pos q]
    exact ⟨_, rfl, (hx.hn p (by omega)).symm⟩
  · have q' : ¬ (gi σ 74 13).toInt ≤ (gi σ 74 14).toInt := fun h9 => q (Int32.le_iff_toInt_le.mpr h9)
    rw [if_neg q]
    have ec := cl_eq (x := gi σ 74 14) (by omega)
    exact ⟨_, rfl, by rw [show (gi σ 74 14).toNatClampNeg = p from by omega]; exact h.tx p (by omega)⟩
theorem advM {nx e b p L S σ} (hx : NXo nx e) (h : RdM nx e b p L S σ) (hp : p < e) : RdM nx e b (p + 1) L S (si σ 74 14 ((gi σ 74 14) + (1 : Int32))) ∧ FXm b σ (si σ 74 14 ((gi σ 74 14) + (1 : Int32))) := by
  have a := h.at_
  have l := hx.le
  have t1 : ((gi σ 74 14) + (1 : Int32)).toInt = (gi σ 74 14).toInt + 1 := i_add (y := (1 : Int32)) (by show (_ : Int) ≤ (gi σ 74 14).toInt + 1; omega) (by show (gi σ 74 14).toInt + 1 ≤ (_ : Int); omega)
  refine ⟨⟨?_, ?_, ?_, ?_, ?_, ?_, WSm_si (by decide) _ _ h.ws, ?_, hp, h.bb, h.ll⟩, FX_si FX_rf (Or.inr (Or.inl ⟨rfl, Or.inl rfl⟩))⟩
  · rw [gi_si_ne (Or.inr (by decide))]; exact h.en
  · intro q hq; rw [gi_si_ne (Or.inl (by decide))]; exact h.tx q hq
  · rw [gi_si_eq, t1]; omega
  · rw [gi_si_ne (Or.inr (by decide))]; exact h.cn
  · intro j t ht; rw [gi_si_ne (Or.inl (by decide))]; exact h.cd j t ht
  · rw [gi_si_ne (Or.inr (by decide))]; exact h.wn
  · rw [gi_si_ne (Or.inr (by decide))]; exact h.op
theorem emitsM {nx e b p L S σ} {v : Int32} {t : Tok} (hx : NXo nx e) (h : RdM nx e b p L S σ) (hl : L.length + S.length < 300) (hv : v = encM t) : RdM nx e b p (L ++ [t]) S (F_X12_emits v σ) ∧ FXm b σ (F_X12_emits v σ) := by
  have a := h.cn
  have l := hx.le
  have l2 := h.le
  have l3 := h.bb
  have ec := cl_eq (x := gi σ 74 24) (by omega)
  have ek : (gi σ 74 24).toNatClampNeg = b + L.length := by omega
  have t1 : ((gi σ 74 24) + (1 : Int32)).toInt = (gi σ 74 24).toInt + 1 := i_add (y := (1 : Int32)) (by show (_ : Int) ≤ (gi σ 74 24).toInt + 1; omega) (by show (gi σ 74 24).toInt + 1 ≤ (_ : Int); omega)
  have e1 : F_X12_emits v σ = si (si σ 122 (b + L.length) v) 74 24 ((gi σ 74 24) + (1 : Int32)) := by
    unfold F_X12_emits
    rw [ek, fl_e, fl_e, gi_si_ne (Or.inl (by decide))]
  rw [e1]
  refine ⟨⟨?_, ?_, ?_, ?_, ?_, ?_, WSm_si (by decide) _ _ (WSm_si (by decide) _ _ h.ws), ?_, h.le, h.bb, ?_⟩, FX_si (FX_si FX_rf (Or.inr (Or.inr ⟨rfl, Nat.le_add_right _ _⟩))) (Or.inr (Or.inl ⟨rfl, by decide⟩))⟩
  · rw [gi_si_ne (Or.inr (by decide)), gi_si_ne (Or.inl (by decide))]; exact h.en
  · intro q hq; rw [gi_si_ne (Or.inl (by decide)), gi_si_ne (Or.inl (by decide))]; exact h.tx q hq
  · rw [gi_si_ne (Or.inr (by decide)), gi_si_ne (Or.inl (by decide))]; exact h.at_
  · rw [gi_si_eq, t1, List.length_append]; show _ = ((b + (L.length + 1) : Nat) : Int); omega
  · intro j t' ht
    rw [gi_si_ne (Or.inl (by decide)), gi_si]
    by_cases hj : j = L.length
    · rw [if_pos ⟨rfl, by rw [hj]⟩, hv]
      rw [hj, List.getElem?_append_right (Nat.le_refl _), Nat.sub_self] at ht
      cases ht; rfl
    · rw [if_neg (fun h9 => hj (by have := h9.2; omega))]
      have hj2 : j < L.length := by
        have := (List.getElem?_eq_some_iff.mp ht).1
        rw [List.length_append] at this
        have : j < L.length + 1 := this
        omega
      rw [List.getElem?_append_left hj2] at ht
      exact h.cd j t' ht
  · rw [gi_si_ne (Or.inr (by decide)), gi_si_ne (Or.inl (by decide))]; exact h.wn
  · rw [gi_si_ne (Or.inr (by decide)), gi_si_ne (Or.inl (by decide))]; exact h.op
  · rw [List.length_append]; show L.length + 1 + S.length ≤ 300; omega
theorem i_pred {x : Int32} (h : 1 ≤ x.toInt) : (x - (1 : Int32)).toInt = x.toInt - 1 := by
  have := Int32.toInt_lt x
  exact i_sub (y := (1 : Int32)) (by show (_ : Int) ≤ x.toInt - 1; omega) (by show x.toInt - 1 ≤ (_ : Int); omega)
/-- the pile's top goes; it is no bracket and no not -/
theorem popM0 {nx e b p L S σ} {c : Int} (h : RdM nx e b p L (c :: S) σ) (hc : ¬ (c = 33 ∨ c = 40)) : RdM nx e b p L S (si σ 74 25 ((gi σ 74 25) - (1 : Int32))) ∧ FXm b σ (si σ 74 25 ((gi σ 74 25) - (1 : Int32))) := by
  have w := h.wn
  have l : (c :: S).length = S.length + 1 := rfl
  have t1 := i_pred (x := gi σ 74 25) (by omega)
  have o : opn (c :: S) = opn S := by rw [opn_c, if_neg hc]
  refine ⟨⟨?_, ?_, ?_, ?_, ?_, ?_, WSm_si (by decide) _ _ h.ws.2, ?_, h.le, h.bb, ?_⟩, FX_si FX_rf (Or.inr (Or.inl ⟨rfl, by decide⟩))⟩
  · rw [gi_si_ne (Or.inr (by decide))]; exact h.en
  · intro q hq; rw [gi_si_ne (Or.inl (by decide))]; exact h.tx q hq
  · rw [gi_si_ne (Or.inr (by decide))]; exact h.at_
  · rw [gi_si_ne (Or.inr (by decide))]; exact h.cn
  · intro j t ht; rw [gi_si_ne (Or.inl (by decide))]; exact h.cd j t ht
  · rw [gi_si_eq, t1]; omega
  · rw [gi_si_ne (Or.inr (by decide)), ← o]; exact h.op
  · have := h.ll; omega
/-- the pile's top goes; it is a bracket or a not -/
theorem popM1 {nx e b p L S σ} {c : Int} (h : RdM nx e b p L (c :: S) σ) (hc : c = 33 ∨ c = 40) :
    RdM nx e b p L S (si (si σ 74 25 ((gi σ 74 25) - (1 : Int32))) 74 26 ((gi (si σ 74 25 ((gi σ 74 25) - (1 : Int32))) 74 26) - (1 : Int32))) ∧ FXm b σ (si (si σ 74 25 ((gi σ 74 25) - (1 : Int32))) 74 26 ((gi (si σ 74 25 ((gi σ 74 25) - (1 : Int32))) 74 26) - (1 : Int32))) := by
  have w := h.wn
  have l : (c :: S).length = S.length + 1 := rfl
  have o : opn (c :: S) = opn S + 1 := by rw [opn_c, if_pos hc]
  have op := h.op
  have t1 := i_pred (x := gi σ 74 25) (by omega)
  have t2 := i_pred (x := gi σ 74 26) (by omega)
  rw [gi_si_ne (show (74 : Nat) ≠ 74 ∨ 26 ≠ 25 from Or.inr (by decide))]
  refine ⟨⟨?_, ?_, ?_, ?_, ?_, ?_, WSm_si (by decide) _ _ (WSm_si (by decide) _ _ h.ws.2), ?_, h.le, h.bb, ?_⟩, FX_si (FX_si FX_rf (Or.inr (Or.inl ⟨rfl, by decide⟩))) (Or.inr (Or.inl ⟨rfl, by decide⟩))⟩
  · rw [gi_si_ne (Or.inr (by decide)), gi_si_ne (Or.inr (by decide))]; exact h.en
  · intro q hq; rw [gi_si_ne (Or.inl (by decide)), gi_si_ne (Or.inl (by decide))]; exact h.tx q hq
  · rw [gi_si_ne (Or.inr (by decide)), gi_si_ne (Or.inr (by decide))]; exact h.at_
  · rw [gi_si_ne (Or.inr (by decide)), gi_si_ne (Or.inr (by decide))]; exact h.cn
  · intro j t ht; rw [gi_si_ne (Or.inl (by decide)), gi_si_ne (Or.inl (by decide))]; exact h.cd j t ht
  · rw [gi_si_ne (Or.inr (by decide)), gi_si_eq, t1]; omega
  · rw [gi_si_eq, t2]; omega
  · have := h.ll; omega
theorem WSm_top {σ : Sg} {S : List Int} {c : Int} {w : Int32} (h : WSm σ (S.length + 1) (c :: S)) (hw : w.toInt = ((S.length + 1 : Nat) : Int)) : (gi σ 123 (w - (1 : Int32)).toNatClampNeg).toInt = c := by
  have t := i_pred (x := w) (by omega)
  have ec := cl_eq (x := w - (1 : Int32)) (by omega)
  rw [show (w - (1 : Int32)).toNatClampNeg = S.length from by omega]
  exact h.1
theorem wholeM {nx e b p} (hx : NXo nx e) : ∀ S n L σ, RdM nx e b p L S σ → S.length < n → L.length + S.length < 300 → RdM nx e b p (L ++ nots S) (popN S) (LF_X12_whole n σ) ∧ FXm b σ (LF_X12_whole n σ) := by
  intro S
  induction S with
  | nil =>
    intro n L σ h hn hl
    cases n with
    | zero => exact absurd hn (Nat.not_lt_zero _)
    | succ n =>
      have w := h.wn
      have w : (gi σ 74 25).toInt = 0 := w
      have e1 : LF_X12_whole (n + 1) σ = σ := by
        show LB_X12_whole_0 (LF_X12_whole n) σ = σ
        unfold LB_X12_whole_0
        rw [if_pos (Int32.le_iff_toInt_le.mpr (by rw [w]; decide))]
      rw [e1]
      exact ⟨by show RdM nx e b p (L ++ []) [] σ; rw [List.append_nil]; exact h, FXm_rf⟩
  | cons c S ih =>
    intro n L σ h hn hl
    cases n with
    | zero => exact absurd hn (Nat.not_lt_zero _)
    | succ n =>
      have w := h.wn
      have l : (c :: S).length = S.length + 1 := rfl
      have top := WSm_top (w := gi σ 74 25) h.ws (by rw [w, l])
      have n0 : ¬ (gi σ 74 25) ≤ 0 := fun h9 => by
        have := Int32.le_iff_toInt_le.mp h9
        have z : (0 : Int32).toInt = 0 := rfl
        omega
      have z33 : (33 : Int32).toInt = 33 := rfl
      by_cases hc : c = 33
      · have e1 : LF_X12_whole (n + 1) σ = LF_X12_whole n (si (si (F_X12_emits (-33 : Int32) σ) 74 25 ((gi (F_X12_emits (-33 : Int32) σ) 74 25) - (1 : Int32))) 74 26 ((gi (si (F_X12_emits (-33 : Int32) σ) 74 25 ((gi (F_X12_emits (-33 : Int32) σ) 74 25) - (1 : Int32))) 74 26) - (1 : Int32))) := by
          show LB_X12_whole_0 (LF_X12_whole n) σ = _
          unfold LB_X12_whole_0
          rw [if_neg n0, if_pos (Int32.toInt_inj.mp (by rw [top, hc, z33])), fl_e, fl_e, fl_e]
        obtain ⟨a1, a2⟩ := emitsM (v := -33) (t := .N) hx h hl rfl
        obtain ⟨b1, b2⟩ := popM1 a1 (Or.inl hc)
        obtain ⟨c1, c2⟩ := ih n _ _ b1 (by omega) (by rw [List.length_append]; show L.length + 1 + S.length < 300; omega)
        rw [e1, nots_c, popN_c, if_pos hc, if_pos hc]
        refine ⟨?_, FXm_tr a2 (FXm_tr b2 c2)⟩
        rw [List.append_assoc] at c1
        exact c1
      · have e1 : LF_X12_whole (n + 1) σ = σ := by
          show LB_X12_whole_0 (LF_X12_whole n) σ = _
          unfold LB_X12_whole_0
          rw [if_neg n0, if_neg (fun h9 => hc (by rw [← top, h9]; rfl))]
        rw [e1, nots_c, popN_c, if_neg hc, if_neg hc, List.append_nil]
        exact ⟨h, FXm_rf⟩
theorem settleM {nx e b p} (hx : NXo nx e) {x1 : Int32} {s : Int} (hs : x1.toInt = s) : ∀ S n L σ, RdM nx e b p L S σ → 2 * S.length < n → L.length + S.length ≤ 300 → RdM nx e b p (L ++ setO s S) (setS s S) (LF_X12_settle n 0 x1 σ) ∧ FXm b σ (LF_X12_settle n 0 x1 σ) := by
  intro S
  induction S with
  | nil =>
    intro n L σ h hn hl
    cases n with
    | zero => exact absurd hn (Nat.not_lt_zero _)
    | succ n =>
      have w := h.wn
      have w : (gi σ 74 25).toInt = 0 := w
      have e1 : LF_X12_settle (n + 1) 0 x1 σ = σ := by
        show LB_X12_settle_0 (LF_X12_settle n) x1 σ = σ
        unfold LB_X12_settle_0
        rw [if_pos (Int32.le_iff_toInt_le.mpr (by rw [w]; decide))]
      rw [e1]
      exact ⟨by show RdM nx e b p (L ++ []) [] σ; rw [List.append_nil]; exact h, FXm_rf⟩
  | cons c S ih =>
    intro n L σ h hn hl
    have l : (c :: S).length = S.length + 1 := rfl
    obtain ⟨n, rfl⟩ : ∃ m, n = m + 2 := ⟨n - 2, by omega⟩
    have w := h.wn
    have top := WSm_top (w := gi σ 74 25) h.ws (by rw [w, l])
    have n0 : ¬ (gi σ 74 25) ≤ 0 := fun h9 => by
      have := Int32.le_iff_toInt_le.mp h9
      have z : (0 : Int32).toInt = 0 := rfl
      omega
    have z38 : (38 : Int32).toInt = 38 := rfl
    have z124 : (124 : Int32).toInt = 124 := rfl
    by_cases hc : c = 38 ∨ (c = 124 ∧ s ≠ 38)
    · have hc3 : ¬ (c = 33 ∨ c = 40) := by omega
      obtain ⟨σ1, q1⟩ : ∃ σ1, σ1 = si σ 74 25 ((gi σ 74 25) - (1 : Int32)) := ⟨_, rfl⟩
      obtain ⟨b1, b2⟩ := popM0 h hc3
      rw [← q1] at b1 b2
      have e1 : LF_X12_settle (n + 2) 0 x1 σ = LF_X12_settle n 0 x1 (F_X12_emits (-(gi σ1 123 (gi σ1 74 25).toNatClampNeg)) σ1) := by
        show LB_X12_settle_0 (LF_X12_settle (n + 1)) x1 σ = _
        unfold LB_X12_settle_0
        have e2 : LF_X12_settle (n + 1) 1 x1 σ = LF_X12_settle n 0 x1 (F_X12_emits (-(gi σ1 123 (gi σ1 74 25).toNatClampNeg)) σ1) := by
          show LB_X12_settle_45 (LF_X12_settle n) x1 σ = _
          unfold LB_X12_settle_45
          rw [← q1, fl_e, fl_e]
        rw [if_neg n0]
        rcases hc with hc | ⟨hc, hs2⟩
        · rw [if_pos (Int32.toInt_inj.mp (by rw [top, hc, z38]))]; exact e2
        · rw [if_neg (fun h9 => by rw [h9, hc, z38] at top; exact absurd top (by decide)), if_pos (Int32.toInt_inj.mp (by rw [top, hc, z124])), if_neg (fun h9 => hs2 (by rw [← hs, h9]; rfl))]; exact e2
      have g1 : gi σ1 123 (gi σ1 74 25).toNatClampNeg = gi σ 123 ((gi σ 74 25) - (1 : Int32)).toNatClampNeg := by
        rw [q1, gi_si_eq, gi_si_ne (Or.inl (by decide))]
      have ev : (-(gi σ1 123 (gi σ1 74 25).toNatClampNeg)) = encM (tokOf c) := by
        rw [g1]
        rcases hc with hc | ⟨hc, -⟩
        · rw [show gi σ 123 ((gi σ 74 25) - (1 : Int32)).toNatClampNeg = 38 from Int32.toInt_inj.mp (by rw [top, hc, z38]), hc]; rfl
        · rw [show gi σ 123 ((gi σ 74 25) - (1 : Int32)).toNatClampNeg = 124 from Int32.toInt_inj.mp (by rw [top, hc, z124]), hc]; rfl
      obtain ⟨a1, a2⟩ := emitsM hx b1 (by omega) ev
      obtain ⟨c1, c2⟩ := ih n _ _ a1 (by omega) (by rw [List.length_append]; show L.length + 1 + S.length ≤ 300; omega)
      rw [e1, setO_c, setS_c, if_pos hc, if_pos hc]
      refine ⟨?_, FXm_tr b2 (FXm_tr a2 c2)⟩
      rw [List.append_assoc] at c1
      exact c1
    · have e1 : LF_X12_settle (n + 2) 0 x1 σ = σ := by
        show LB_X12_settle_0 (LF_X12_settle (n + 1)) x1 σ = _
        unfold LB_X12_settle_0
        rw [if_neg n0, if_neg (fun h9 => hc (Or.inl (by rw [← top, h9]; rfl)))]
        by_cases h124 : c = 124
        · rw [if_pos (Int32.toInt_inj.mp (by rw [top, h124, z124])), if_pos (Int32.toInt_inj.mp (by rw [hs, z38]; omega))]
        · rw [if_neg (fun h9 => h124 (by rw [← top, h9]; rfl))]
      rw [e1, setO_c, setS_c, if_neg hc, if_neg hc, List.append_nil]
      exact ⟨h, FXm_rf⟩
theorem digitM {nx e b p L S σ} (hx : NXo nx e) (h : RdM nx e b p L S σ) : F_X12_isDigit σ = (if dig (nx p) = true then 1 else 0, σ) := by
  obtain ⟨r, e1, e2⟩ := nextM hx h
  unfold F_X12_isDigit F_X12_in
  rw [e1, fb_e]
  have z1 : (48 : Int32).toInt = 48 := rfl
  have z2 : (57 : Int32).toInt = 57 := rfl
  by_cases q1 : r < (48 : Int32)
  · have q1' := Int32.lt_iff_toInt_lt.mp q1
    rw [if_pos q1, if_neg (show ¬ dig (nx p) = true from fun h9 => by have := of_decide_eq_true h9; omega), fb_e]
  · have q1' : ¬ r.toInt < (48 : Int32).toInt := fun h9 => q1 (Int32.lt_iff_toInt_lt.mpr h9)
    rw [if_neg q1]
    by_cases q2 : (57 : Int32) < r
    · have q2' := Int32.lt_iff_toInt_lt.mp q2
      rw [if_pos q2, if_neg (show ¬ dig (nx p) = true from fun h9 => by have := of_decide_eq_true h9; omega), fb_e]
    · have q2' : ¬ (57 : Int32).toInt < r.toInt := fun h9 => q2 (Int32.lt_iff_toInt_lt.mpr h9)
      rw [if_neg q2, if_pos (show dig (nx p) = true from decide_eq_true (by omega)), fb_e]
theorem takesM_t {nx e b p L S σ} {op : Int32} {c : Int} (hx : NXo nx e) (h : RdM nx e b p L S σ) (ho : op.toInt = c) (h0 : 0 ≤ c) (q : nx p = c) : F_X12_takes op σ = (1, si σ 74 14 ((gi σ 74 14) + (1 : Int32))) ∧ RdM nx e b (p + 1) L S (si σ 74 14 ((gi σ 74 14) + (1 : Int32))) ∧ FXm b σ (si σ 74 14 ((gi σ 74 14) + (1 : Int32))) := by
  obtain ⟨r, e1, e2⟩ := nextM hx h
  refine ⟨?_, advM hx h (ltC hx q h0)⟩
  unfold F_X12_takes
  rw [e1, fb_e, if_pos (Int32.toInt_inj.mp (by rw [e2, ho, q])), fl_e]
theorem takesM_f {nx e b p L S σ} {op : Int32} {c : Int} (hx : NXo nx e) (h : RdM nx e b p L S σ) (ho : op.toInt = c) (q : ¬ nx p = c) : F_X12_takes op σ = (0, σ) := by
  obtain ⟨r, e1, e2⟩ := nextM hx h
  unfold F_X12_takes
  rw [e1, fb_e, if_neg (fun h9 => q (by rw [← e2, h9, ho]))]
theorem digsM {nx e b p L S σ} {v : Int32} (h : RdM nx e b p L S σ) : RdM nx e b p L S (si σ 74 15 v) ∧ FXm b σ (si σ 74 15 v) := by
  refine ⟨⟨?_, ?_, ?_, ?_, ?_, ?_, WSm_si (by decide) _ _ h.ws, ?_, h.le, h.bb, h.ll⟩, FX_si FX_rf (Or.inr (Or.inl ⟨rfl, by decide⟩))⟩
  · rw [gi_si_ne (Or.inr (by decide))]; exact h.en
  · intro q hq; rw [gi_si_ne (Or.inl (by decide))]; exact h.tx q hq
  · rw [gi_si_ne (Or.inr (by decide))]; exact h.at_
  · rw [gi_si_ne (Or.inr (by decide))]; exact h.cn
  · intro j t ht; rw [gi_si_ne (Or.inl (by decide))]; exact h.cd j t ht
  · rw [gi_si_ne (Or.inr (by decide))]; exact h.wn
  · rw [gi_si_ne (Or.inr (by decide))]; exact h.op
/-- one digit more -/
theorem digM1 {nx e b p L S σ} {d : Nat} (hx : NXo nx e) (h : RdM nx e b p L S σ) (hd : dig (nx p) = true) (h15 : (gi σ 74 15).toInt = (d : Int)) (hd9 : d ≤ 9) (n : Nat) (x1 : Int32) (hx1 : ¬ (2 : Int32) ≤ x1) :
    ∃ σ', LF_X12_takesNumber (n + 1) x1 σ = LF_X12_takesNumber n (x1 + 1) σ' ∧ RdM nx e b (p + 1) L S σ' ∧ (gi σ' 74 15).toInt = ((10 * d + (nx p - 48).toNat : Nat) : Int) ∧ FXm b σ σ' := by
  have b0 := of_decide_eq_true hd
  have hp : p < e := ltC hx rfl (by omega)
  obtain ⟨r, s1, s2⟩ := nextM hx h
  have z48 : (48 : Int32).toInt = 48 := rfl
  have m1 : ((10 : Int32) * (gi σ 74 15)).toInt = 10 * (gi σ 74 15).toInt := i_mull rfl (by omega) (by omega)
  have m2 : (((10 : Int32) * (gi σ 74 15)) + r).toInt = ((10 : Int32) * (gi σ 74 15)).toInt + r.toInt := i_add (by omega) (by omega)
  have m3 : ((((10 : Int32) * (gi σ 74 15)) + r) - (48 : Int32)).toInt = (((10 : Int32) * (gi σ 74 15)) + r).toInt - 48 := i_sub (y := (48 : Int32)) (by show (_ : Int) ≤ (((10 : Int32) * (gi σ 74 15)) + r).toInt - 48; omega) (by show (((10 : Int32) * (gi σ 74 15)) + r).toInt - 48 ≤ (_ : Int); omega)
  obtain ⟨a1, a2⟩ := digsM (v := (((10 : Int32) * (gi σ 74 15)) + r) - (48 : Int32)) h
  obtain ⟨c1, c2⟩ := advM hx a1 hp
  refine ⟨_, ?_, c1, ?_, FXm_tr a2 c2⟩
  · show LB_X12_takesNumber_16 (LF_X12_takesNumber n) x1 σ = _
    unfold LB_X12_takesNumber_16
    rw [if_neg hx1, digitM hx h, if_pos hd, fb_e, if_neg (show ¬ (1 : Int32) = 0 by decide), s1, fb_e, fl_e, fl_e, fl_e]
  · rw [gi_si_ne (Or.inr (by decide)), gi_si_eq, m3, m2, m1, h15, s2]
    omega
theorem numM {nx e b p L S σ} (hx : NXo nx e) (h : RdM nx e b p L S σ) :
    ((pnum nx p).1 = true → ∃ σ', F_X12_takesNumber σ = (1, σ') ∧ (gi σ' 74 15).toInt = ((pnum nx p).2.2 : Int) ∧ (pnum nx p).2.2 ≤ 99 ∧ RdM nx e b (pnum nx p).2.1 L S σ' ∧ FXm b σ σ' ∧ p + 1 ≤ (pnum nx p).2.1) ∧ ((pnum nx p).1 = false → F_X12_takesNumber σ = (0, σ) ∧ (pnum nx p).2.1 = p) := by
  unfold F_X12_takesNumber
  rw [digitM hx h, fb_e]
  by_cases d0 : dig (nx p) = true
  · have b0 := of_decide_eq_true d0
    rw [if_pos d0, if_neg (show ¬ (1 : Int32) = 0 by decide), fl_e]
    obtain ⟨a1, a2⟩ := digsM (v := 0) h
    obtain ⟨σ1, e1, c1, c2, c3⟩ := digM1 (d := 0) hx a1 d0 (by rw [gi_si_eq]; rfl) (by decide) 8 0 (by decide)
    rw [e1, show (0 : Int32) + 1 = 1 from by decide]
    by_cases d1 : dig (nx (p + 1)) = true
    · have b1 := of_decide_eq_true d1
      have ep : pnum nx p = (true, p + 2, 10 * (nx p - 48).toNat + (nx (p + 1) - 48).toNat) := by unfold pnum; rw [if_pos d0, if_pos d1]
      obtain ⟨σ2, e2, g1, g2, g3⟩ := digM1 (d := 10 * 0 + (nx p - 48).toNat) hx c1 d1 c2 (by omega) 7 1 (by decide)
      rw [e2, show (1 : Int32) + 1 = 2 from by decide, ep]
      have e3 : LF_X12_takesNumber 7 2 σ2 = (1, σ2) := by
        show LB_X12_takesNumber_16 (LF_X12_takesNumber 6) 2 σ2 = _
        unfold LB_X12_takesNumber_16
        rw [if_pos (by decide)]
      refine ⟨fun _ => ⟨σ2, e3, ?_, ?_, g1, FXm_tr a2 (FXm_tr c3 g3), by show p + 1 ≤ p + 2; omega⟩, fun h9 => by cases h9⟩
      · rw [g2]; show ((10 * (10 * 0 + (nx p - 48).toNat) + (nx (p + 1) - 48).toNat : Nat) : Int) = ((10 * (nx p - 48).toNat + (nx (p + 1) - 48).toNat : Nat) : Int); omega
      · show 10 * (nx p - 48).toNat + (nx (p + 1) - 48).toNat ≤ 99; omega
    · have ep : pnum nx p = (true, p + 1, (nx p - 48).toNat) := by unfold pnum; rw [if_pos d0, if_neg d1]
      have e3 : LF_X12_takesNumber 8 1 σ1 = (1, σ1) := by
        show LB_X12_takesNumber_16 (LF_X12_takesNumber 7) 1 σ1 = _
        unfold LB_X12_takesNumber_16
        rw [if_neg (by decide), digitM hx c1, if_neg d1, fb_e, if_pos rfl]
      rw [ep]
      refine ⟨fun _ => ⟨σ1, e3, ?_, ?_, c1, FXm_tr a2 c3, Nat.le_refl _⟩, fun h9 => by cases h9⟩
      · rw [c2]; show ((10 * 0 + (nx p - 48).toNat : Nat) : Int) = (((nx p - 48).toNat : Nat) : Int); omega
      · show (nx p - 48).toNat ≤ 99; omega
  · have ep : pnum nx p = (false, p, 0) := by unfold pnum; rw [if_neg d0]
    rw [ep, if_neg d0, if_pos rfl]
    exact ⟨fun h9 => (by cases h9), fun _ => ⟨rfl, rfl⟩⟩
theorem letterM {r : Int32} {c : Int} (h : r.toInt = c) {σ : Sg} : F_X12_letterAt r σ = (oI (ltr c), σ) := by
  unfold F_X12_letterAt
  rw [h]
  by_cases h1 : c = 109
  · rw [h1]; rfl
  by_cases h2 : c = 107
  · rw [h2]; rfl
  by_cases h3 : c = 112
  · rw [h3]; rfl
  by_cases h4 : c = 101
  · rw [h4]; rfl
  by_cases h5 : c = 116
  · rw [h5]; rfl
  by_cases h6 : c = 100
  · rw [h6]; rfl
  have e : ltr c = none := by unfold ltr; rw [if_neg h1, if_neg h2, if_neg h3, if_neg h4, if_neg h5, if_neg h6]
  rw [e]
  simp only [h1, h2, h3, h4, h5, h6, if_false, ite_self]
  rfl
theorem testM {nx e b p L S σ} (hx : NXo nx e) (h : RdM nx e b p L S σ) (hl : L.length + S.length < 200) :
    ((ptest nx p).1 = true → ∃ σ', F_X12_takesTest σ = (1, σ') ∧ RdM nx e b (ptest nx p).2.1 (L ++ (ptest nx p).2.2 ++ nots S) (popN S) σ' ∧ (ptest nx p).2.2.length = 1 ∧ FXm b σ σ') ∧ ((ptest nx p).1 = false → ∃ σ', F_X12_takesTest σ = (0, σ') ∧ (gi σ' 74 14).toInt = ((ptest nx p).2.1 : Int) ∧ FXm b σ σ') := by
  obtain ⟨r, s1, s2⟩ := nextM hx h
  unfold F_X12_takesTest ptest
  rw [s1, fb_e, letterM s2, fb_e]
  cases e1 : ltr (nx p) with
  | none =>
    rw [if_neg (show ¬ (0 : Int32) ≤ oI none by decide)]
    exact ⟨fun h9 => (by cases h9), fun _ => ⟨_, rfl, h.at_, FXm_rf⟩⟩
  | some f =>
    obtain ⟨f5, c0'⟩ := ltr_lt e1
    obtain ⟨a1, a2⟩ := advM hx h (ltC hx rfl c0')
    obtain ⟨σ4, e4⟩ : ∃ σ4, σ4 = si σ 74 14 ((gi σ 74 14) + (1 : Int32)) := ⟨_, rfl⟩
    rw [if_pos (oI_ge f5), ← e4, fl_e]
    rw [← e4] at a1 a2
    obtain ⟨r8, u1, u2⟩ := nextM hx a1
    have z60 : (60 : Int32).toInt = 60 := rfl
    have z62 : (62 : Int32).toInt = 62 := rfl
    rw [u1, fb_e]
    show (_ → _) ∧ (_ → _)
    cases e2 : cmpn (nx (p + 1)) with
    | none =>
      have hn : F_X12_in r8 (60 : Int32) (62 : Int32) σ4 = (0, σ4) := by
        unfold F_X12_in
        have : nx (p + 1) < 60 ∨ 62 < nx (p + 1) := by
          unfold cmpn at e2
          repeat' split at e2
          all_goals first | omega | cases e2
        rcases this with q | q
        · rw [if_pos (Int32.lt_iff_toInt_lt.mpr (by omega))]
        · rw [if_neg (fun h9 => by have := Int32.lt_iff_toInt_lt.mp h9; omega), if_pos (Int32.lt_iff_toInt_lt.mpr (by omega))]
      rw [hn, fb_e, if_pos rfl]
      exact ⟨fun h9 => (by cases h9), fun _ => ⟨_, rfl, a1.at_, a2⟩⟩
    | some s =>
      obtain ⟨s3, c1'⟩ := cmp_lt e2
      have hv : nx (p + 1) = 60 + (s : Int) := by
        unfold cmpn at e2
        repeat' split at e2
        all_goals first | (cases e2; omega) | cases e2
      have hn : F_X12_in r8 (60 : Int32) (62 : Int32) σ4 = (1, σ4) := by
        unfold F_X12_in
        rw [if_neg (fun h9 => by have := Int32.lt_iff_toInt_lt.mp h9; omega), if_neg (fun h9 => by have := Int32.lt_iff_toInt_lt.mp h9; omega)]
      obtain ⟨a3, a4⟩ := advM hx a1 (ltC hx rfl c1')
      obtain ⟨σ8, e8⟩ : ∃ σ8, σ8 = si σ4 74 14 ((gi σ4 74 14) + (1 : Int32)) := ⟨_, rfl⟩
      rw [hn, fb_e, if_neg (show ¬ (1 : Int32) = 0 by decide), ← e8, fl_e]
      rw [← e8] at a3 a4
      replace a3 : RdM nx e b (p + 2) L S σ8 := a3
      have g3 := numM hx a3
      by_cases hq : (pnum nx (p + 2)).1 = true
      · obtain ⟨σ9, r1, r2, r3, r4, r5, r6⟩ := g3.1 hq
        rw [r1, fb_e, if_neg (show ¬ (1 : Int32) = 0 by decide), fl_e]
        have of := oI_some f5
        have n1 : (r8 - (60 : Int32)).toInt = r8.toInt - 60 := i_sub (y := (60 : Int32)) (by show (_ : Int) ≤ r8.toInt - 60; omega) (by show r8.toInt - 60 ≤ (_ : Int); omega)
        have m1 : ((1000 : Int32) * oI (some f)).toInt = 1000 * (oI (some f)).toInt := i_mull rfl (by omega) (by omega)
        have m2 : ((100 : Int32) * (r8 - (60 : Int32))).toInt = 100 * (r8 - (60 : Int32)).toInt := i_mull rfl (by omega) (by omega)
        have m3 : (((1000 : Int32) * oI (some f)) + ((100 : Int32) * (r8 - (60 : Int32)))).toInt = ((1000 : Int32) * oI (some f)).toInt + ((100 : Int32) * (r8 - (60 : Int32))).toInt := i_add (by omega) (by omega)
        have m4 : ((((1000 : Int32) * oI (some f)) + ((100 : Int32) * (r8 - (60 : Int32)))) + (gi σ9 74 15)).toInt = (((1000 : Int32) * oI (some f)) + ((100 : Int32) * (r8 - (60 : Int32)))).toInt + (gi σ9 74 15).toInt := i_add (by omega) (by omega)
        have ev : ((((1000 : Int32) * oI (some f)) + ((100 : Int32) * (r8 - (60 : Int32)))) + (gi σ9 74 15)) = encM (.T f s (pnum nx (p + 2)).2.2) := by
          apply Int32.toInt_inj.mp
          show _ = (Int32.ofNat (f * 1000 + s * 100 + (pnum nx (p + 2)).2.2)).toInt
          rw [Int32.toInt_ofNat_of_lt (by omega), m4, m3, m1, m2, n1, of, u2, hv, r2]
          omega
        obtain ⟨w1, w2⟩ := emitsM hx r4 (by omega) ev
        have hl2 : (L ++ [Tok.T f s (pnum nx (p + 2)).2.2]).length + S.length < 300 := by rw [List.length_append]; show L.length + 1 + S.length < 300; omega
        obtain ⟨σa, ea⟩ : ∃ σa, σa = F_X12_emits ((((1000 : Int32) * oI (some f)) + ((100 : Int32) * (r8 - (60 : Int32)))) + (gi σ9 74 15)) σ9 := ⟨_, rfl⟩
        rw [← ea] at w1 w2 ⊢
        obtain ⟨y1, y2⟩ := wholeM hx S 200 _ _ w1 (by omega) hl2
        refine ⟨fun _ => ⟨LF_X12_whole 200 σa, rfl, ?_, ?_, FXm_tr a2 (FXm_tr a4 (FXm_tr r5 (FXm_tr w2 y2)))⟩, fun h9 => ?_⟩
        · show RdM nx e b (if (pnum nx (p + 2)).1 = true then (true, (pnum nx (p + 2)).2.1, [Tok.T f s (pnum nx (p + 2)).2.2]) else (false, (pnum nx (p + 2)).2.1, []) : PRd).2.1 (L ++ (if (pnum nx (p + 2)).1 = true then (true, (pnum nx (p + 2)).2.1, [Tok.T f s (pnum nx (p + 2)).2.2]) else (false, (pnum nx (p + 2)).2.1, []) : PRd).2.2 ++ nots S) (popN S) (LF_X12_whole 200 σa)
          rw [if_pos hq]; exact y1
        · show (if (pnum nx (p + 2)).1 = true then (true, (pnum nx (p + 2)).2.1, [Tok.T f s (pnum nx (p + 2)).2.2]) else (false, (pnum nx (p + 2)).2.1, []) : PRd).2.2.length = 1
          rw [if_pos hq]; rfl
        · exfalso
          have h9 : (if (pnum nx (p + 2)).1 = true then (true, (pnum nx (p + 2)).2.1, [Tok.T f s (pnum nx (p + 2)).2.2]) else (false, (pnum nx (p + 2)).2.1, []) : PRd).1 = false := h9
          rw [if_pos hq] at h9; cases h9
      · have hq' : (pnum nx (p + 2)).1 = false := Bool.eq_false_iff.mpr hq
        obtain ⟨r1, r2⟩ := g3.2 hq'
        rw [r1, fb_e, if_pos rfl]
        refine ⟨fun h9 => ?_, fun _ => ⟨σ8, rfl, ?_, FXm_tr a2 a4⟩⟩
        · exfalso
          have h9 : (if (pnum nx (p + 2)).1 = true then (true, (pnum nx (p + 2)).2.1, [Tok.T f s (pnum nx (p + 2)).2.2]) else (false, (pnum nx (p + 2)).2.1, []) : PRd).1 = true := h9
          rw [if_neg hq] at h9; cases h9
        · show (gi σ8 74 14).toInt = ((if (pnum nx (p + 2)).1 = true then (true, (pnum nx (p + 2)).2.1, [Tok.T f s (pnum nx (p + 2)).2.2]) else (false, (pnum nx (p + 2)).2.1, []) : PRd).2.1 : Int)
          rw [if_neg hq, r2]; exact a3.at_
theorem nots_len : ∀ S : List Int, (nots S).length + (popN S).length = S.length := by
  intro S
  induction S with
  | nil => rfl
  | cons c S ih =>
    rw [nots_c, popN_c]
    by_cases h : c = 33
    · rw [if_pos h, if_pos h, List.length_cons, List.length_cons]; omega
    · rw [if_neg h, if_neg h]; exact Nat.zero_add _
theorem setO_len {s : Int} : ∀ S : List Int, (setO s S).length + (setS s S).length = S.length := by
  intro S
  induction S with
  | nil => rfl
  | cons c S ih =>
    rw [setO_c, setS_c]
    by_cases h : c = 38 ∨ (c = 124 ∧ s ≠ 38)
    · rw [if_pos h, if_pos h, List.length_cons, List.length_cons]; omega
    · rw [if_neg h, if_neg h]; exact Nat.zero_add _
/-- one more on the pile: no bracket, no not -/
theorem pushM0 {nx e b p L S σ} {v : Int32} {c : Int} (h : RdM nx e b p L S σ) (hl : L.length + S.length < 300) (hv : v.toInt = c) (hc : ¬ (c = 33 ∨ c = 40)) :
    RdM nx e b p L (c :: S) (si (si σ 123 (gi σ 74 25).toNatClampNeg v) 74 25 ((gi (si σ 123 (gi σ 74 25).toNatClampNeg v) 74 25) + (1 : Int32))) ∧ FXm b σ (si (si σ 123 (gi σ 74 25).toNatClampNeg v) 74 25 ((gi (si σ 123 (gi σ 74 25).toNatClampNeg v) 74 25) + (1 : Int32))) := by
  have w := h.wn
  have l : (c :: S).length = S.length + 1 := rfl
  have ec := cl_eq (x := gi σ 74 25) (by omega)
  have ek : (gi σ 74 25).toNatClampNeg = S.length := by omega
  have t1 : ((gi σ 74 25) + (1 : Int32)).toInt = (gi σ 74 25).toInt + 1 := i_add (y := (1 : Int32)) (by show (_ : Int) ≤ (gi σ 74 25).toInt + 1; omega) (by show (gi σ 74 25).toInt + 1 ≤ (_ : Int); omega)
  have o : opn (c :: S) = opn S := by rw [opn_c, if_neg hc]
  rw [ek, gi_si_ne (show (74 : Nat) ≠ 123 ∨ 25 ≠ S.length from Or.inl (by decide))]
  refine ⟨⟨?_, ?_, ?_, ?_, ?_, ?_, WSm_si (by decide) _ _ ⟨by rw [gi_si_eq]; exact hv, WSm_up _ _ (Nat.le_refl _) h.ws⟩, ?_, h.le, h.bb, ?_⟩, FX_si (FX_si FX_rf (Or.inl rfl)) (Or.inr (Or.inl ⟨rfl, by decide⟩))⟩
  · rw [gi_si_ne (Or.inr (by decide)), gi_si_ne (Or.inl (by decide))]; exact h.en
  · intro q hq; rw [gi_si_ne (Or.inl (by decide)), gi_si_ne (Or.inl (by decide))]; exact h.tx q hq
  · rw [gi_si_ne (Or.inr (by decide)), gi_si_ne (Or.inl (by decide))]; exact h.at_
  · rw [gi_si_ne (Or.inr (by decide)), gi_si_ne (Or.inl (by decide))]; exact h.cn
  · intro j t ht; rw [gi_si_ne (Or.inl (by decide)), gi_si_ne (Or.inl (by decide))]; exact h.cd j t ht
  · rw [gi_si_eq, t1, l]; omega
  · rw [gi_si_ne (Or.inr (by decide)), gi_si_ne (Or.inl (by decide)), o]; exact h.op
  · rw [l]; omega
/-- one more on the pile: a bracket or a not -/
theorem pushM1 {nx e b p L S σ} {v : Int32} {c : Int} (h : RdM nx e b p L S σ) (hl : L.length + S.length < 300) (hv : v.toInt = c) (hc : c = 33 ∨ c = 40) (σ2 : Sg) (e2 : σ2 = si σ 74 26 ((gi σ 74 26) + (1 : Int32))) :
    RdM nx e b p L (c :: S) (si (si σ2 123 (gi σ2 74 25).toNatClampNeg v) 74 25 ((gi (si σ2 123 (gi σ2 74 25).toNatClampNeg v) 74 25) + (1 : Int32))) ∧ FXm b σ (si (si σ2 123 (gi σ2 74 25).toNatClampNeg v) 74 25 ((gi (si σ2 123 (gi σ2 74 25).toNatClampNeg v) 74 25) + (1 : Int32))) := by
  have w := h.wn
  have op := h.op
  have g25 : gi σ2 74 25 = gi σ 74 25 := by rw [e2, gi_si_ne (Or.inr (by decide))]
  have lop : opn S ≤ S.length := by
    have : ∀ S : List Int, opn S ≤ S.length := by
      intro S
      induction S with
      | nil => exact Nat.le_refl _
      | cons c S ih =>
        rw [opn_c, List.length_cons]
        by_cases hh : c = 33 ∨ c = 40
        · rw [if_pos hh]; omega
        · rw [if_neg hh]; omega
    exact this S
  have l : (c :: S).length = S.length + 1 := rfl
  have ec := cl_eq (x := gi σ 74 25) (by omega)
  have ek : (gi σ 74 25).toNatClampNeg = S.length := by omega
  have t1 : ((gi σ 74 25) + (1 : Int32)).toInt = (gi σ 74 25).toInt + 1 := i_add (y := (1 : Int32)) (by show (_ : Int) ≤ (gi σ 74 25).toInt + 1; omega) (by show (gi σ 74 25).toInt + 1 ≤ (_ : Int); omega)
  have t2 : ((gi σ 74 26) + (1 : Int32)).toInt = (gi σ 74 26).toInt + 1 := i_add (y := (1 : Int32)) (by show (_ : Int) ≤ (gi σ 74 26).toInt + 1; omega) (by show (gi σ 74 26).toInt + 1 ≤ (_ : Int); omega)
  have o : opn (c :: S) = opn S + 1 := by rw [opn_c, if_pos hc]
  rw [g25, ek, gi_si_ne (show (74 : Nat) ≠ 123 ∨ 25 ≠ S.length from Or.inl (by decide)), g25, e2]
  refine ⟨⟨?_, ?_, ?_, ?_, ?_, ?_, WSm_si (by decide) _ _ ⟨by rw [gi_si_eq]; exact hv, WSm_up _ _ (Nat.le_refl _) (WSm_si (by decide) _ _ h.ws)⟩, ?_, h.le, h.bb, ?_⟩, FX_si (FX_si (FX_si FX_rf (Or.inr (Or.inl ⟨rfl, by decide⟩))) (Or.inl rfl)) (Or.inr (Or.inl ⟨rfl, by decide⟩))⟩
  · rw [gi_si_ne (Or.inr (by decide)), gi_si_ne (Or.inl (by decide)), gi_si_ne (Or.inr (by decide))]; exact h.en
  · intro q hq; rw [gi_si_ne (Or.inl (by decide)), gi_si_ne (Or.inl (by decide)), gi_si_ne (Or.inl (by decide))]; exact h.tx q hq
  · rw [gi_si_ne (Or.inr (by decide)), gi_si_ne (Or.inl (by decide)), gi_si_ne (Or.inr (by decide))]; exact h.at_
  · rw [gi_si_ne (Or.inr (by decide)), gi_si_ne (Or.inl (by decide)), gi_si_ne (Or.inr (by decide))]; exact h.cn
  · intro j t ht; rw [gi_si_ne (Or.inl (by decide)), gi_si_ne (Or.inl (by decide)), gi_si_ne (Or.inl (by decide))]; exact h.cd j t ht
  · rw [gi_si_eq, t1, l]; omega
  · rw [gi_si_ne (Or.inr (by decide)), gi_si_ne (Or.inl (by decide)), gi_si_eq, t2, o]; omega
  · rw [l]; omega
noncomputable def FXe (b c : Nat) (σ σ' : Sg) : Prop := FX (fun id => id = 123) (fun id k => (id = 74 ∧ (k = 14 ∨ k = 15 ∨ k = 24 ∨ k = 25 ∨ k = 26)) ∨ (id = 122 ∧ b ≤ k) ∨ (id = 121 ∧ k = c)) σ σ'
theorem FXe_m {b c : Nat} {σ σ' : Sg} (f : FXm b σ σ') : FXe b c σ σ' := FX_tr FX_rf f (fun _ h => h) (fun _ _ h => Or.inr (h.elim Or.inl (fun h => Or.inr (Or.inl h))))
theorem FXe_tr {b c : Nat} {σ σ1 σ2 : Sg} (f : FXe b c σ σ1) (g : FXe b c σ1 σ2) : FXe b c σ σ2 := FX_tr f g (fun _ h => h) (fun _ _ h => Or.inr h)
/-- the clause's end is noted -/
theorem toM {nx e b p L S σ c} {v : Int32} (h : RdM nx e b p L S σ) : RdM nx e b p L S (si σ 121 c v) ∧ FXe b c σ (si σ 121 c v) := by
  refine ⟨⟨?_, ?_, ?_, ?_, ?_, ?_, WSm_si (by decide) _ _ h.ws, ?_, h.le, h.bb, h.ll⟩, FX_si FX_rf (Or.inr (Or.inr (Or.inr ⟨rfl, rfl⟩)))⟩
  · rw [gi_si_ne (Or.inl (by decide))]; exact h.en
  · intro q hq; rw [gi_si_ne (Or.inl (by decide))]; exact h.tx q hq
  · rw [gi_si_ne (Or.inl (by decide))]; exact h.at_
  · rw [gi_si_ne (Or.inl (by decide))]; exact h.cn
  · intro j t ht; rw [gi_si_ne (Or.inl (by decide))]; exact h.cd j t ht
  · rw [gi_si_ne (Or.inl (by decide))]; exact h.wn
  · rw [gi_si_ne (Or.inl (by decide))]; exact h.op
/-- what the loop comes to -/
noncomputable def REm (nx : Nat → Int) (e b k0 : Nat) (x1 : Int32) (σ : Sg) (x : Int32 × Sg) (R : PRd) : Prop :=
  (R.1 = true → x.1 = 1 ∧ RdM nx e b R.2.1 R.2.2 [] x.2 ∧ (gi x.2 121 x1.toNatClampNeg).toInt = ((b + R.2.2.length : Nat) : Int) ∧ R.2.2.length + k0 ≤ R.2.1) ∧ (R.1 = false → x.1 = 0 ∧ (gi x.2 74 14).toInt = (R.2.1 : Int)) ∧ FXe b x1.toNatClampNeg σ x.2
theorem REm_tr {nx e b k0 x1 σ σ1 x R} (f : FXe b x1.toNatClampNeg σ σ1) (h : REm nx e b k0 x1 σ1 x R) : REm nx e b k0 x1 σ x R := ⟨h.1, h.2.1, FXe_tr f h.2.2⟩
theorem ptest_le {nx e p} (hx : NXo nx e) (h : (ptest nx p).1 = true) : p + 3 ≤ (ptest nx p).2.1 := by
  unfold ptest at h ⊢
  cases e1 : ltr (nx p) with
  | none => rw [e1] at h; cases h
  | some f =>
    rw [e1] at h
    cases e2 : cmpn (nx (p + 1)) with
    | none => simp only [e2] at h; cases h
    | some s =>
      simp only [e2] at h ⊢
      by_cases hq : (pnum nx (p + 2)).1 = true
      · rw [if_pos hq]
        show p + 3 ≤ (pnum nx (p + 2)).2.1
        unfold pnum at hq ⊢
        by_cases d0 : dig (nx (p + 2)) = true
        · rw [if_pos d0]
          by_cases d1 : dig (nx (p + 2 + 1)) = true
          · rw [if_pos d1]; show p + 3 ≤ p + 2 + 2; omega
          · rw [if_neg d1]; exact Nat.le_refl _
        · rw [if_neg d0] at hq; cases hq
      · rw [if_neg hq] at h; cases h
theorem popN_sub : ∀ S : List Int, ∀ c, c ∈ popN S → c ∈ S := by
  intro S
  induction S with
  | nil => exact fun _ h => h
  | cons b S ih =>
    intro c h
    rw [popN_c] at h
    by_cases q : b = 33
    · rw [if_pos q] at h; exact List.mem_cons_of_mem _ (ih c h)
    · rw [if_neg q] at h; exact h
theorem setS_sub {s : Int} : ∀ S : List Int, ∀ c, c ∈ setS s S → c ∈ S := by
  intro S
  induction S with
  | nil => exact fun _ h => h
  | cons b S ih =>
    intro c h
    rw [setS_c] at h
    by_cases q : b = 38 ∨ (b = 124 ∧ s ≠ 38)
    · rw [if_pos q] at h; exact List.mem_cons_of_mem _ (ih c h)
    · rw [if_neg q] at h; exact h
theorem setS_hd {s : Int} : ∀ S : List Int, ∀ c S', setS s S = c :: S' → ¬ (c = 38 ∨ (c = 124 ∧ s ≠ 38)) := by
  intro S
  induction S with
  | nil => intro c S' h; cases h
  | cons b S ih =>
    intro c S' h
    rw [setS_c] at h
    by_cases q : b = 38 ∨ (b = 124 ∧ s ≠ 38)
    · rw [if_pos q] at h; exact ih c S' h
    · rw [if_neg q] at h; cases h; exact q
noncomputable def okS (S : List Int) : Prop := ∀ c, c ∈ S → c = 33 ∨ c = 40 ∨ c = 38 ∨ c = 124
theorem okS_c {c : Int} {S : List Int} (h : c = 33 ∨ c = 40 ∨ c = 38 ∨ c = 124) (g : okS S) : okS (c :: S) := fun x hx => by
  rcases List.mem_cons.mp hx with rfl | hx
  · exact h
  · exact g x hx
theorem takesEM {nx e b k0 x1} (hx : NXo nx e) : ∀ m w S p L σ n (x2 : Int32), RdM nx e b p L S σ → L.length + S.length + k0 ≤ p → okS S → e + 1 < m + p + 1 → 2 * m ≤ n → (w = true ↔ ¬ x2 = 0) →
    REm nx e b k0 x1 σ (LF_X12_takesE n 0 x1 x2 0 σ) (prun nx (ptest nx) m w S p L) := by
  intro m
  induction m with
  | zero => intro w S p L σ n x2 h hs _ h1 h2 _; have := h.le; omega
  | succ m ih =>
    intro w S p L σ n x2 h hs hok h1 h2 hw
    obtain ⟨n, rfl⟩ : ∃ k, n = k + 2 := ⟨n - 2, by omega⟩
    have ple := h.le
    have e100 := hx.le
    obtain ⟨r, s1, s2⟩ := nextM hx h
    have z38 : (38 : Int32).toInt = 38 := rfl
    have z124 : (124 : Int32).toInt = 124 := rfl
    have z33 : (33 : Int32).toInt = 33 := rfl
    have z40 : (40 : Int32).toInt = 40 := rfl
    have z41 : (41 : Int32).toInt = 41 := rfl
    have E0 : LF_X12_takesE (n + 2) 0 x1 x2 0 σ = LB_X12_takesE_22 (LF_X12_takesE (n + 1)) x1 x2 σ := Eq.trans rfl rfl
    rw [E0]
    unfold LB_X12_takesE_22
    rw [s1, fb_e]
    cases w with
    | false =>
      have hx2 : x2 = 0 := Classical.byContradiction (fun h9 => by have := hw.mpr h9; cases this)
      rw [if_pos hx2, prun_f]
      by_cases q : nx p = 38 ∨ nx p = 124
      · have hr : r = 38 ∨ r = 124 := q.elim (fun h => Or.inl (Int32.toInt_inj.mp (by rw [s2, h, z38]))) (fun h => Or.inr (Int32.toInt_inj.mp (by rw [s2, h, z124])))
        have hp : p < e := q.elim (fun h => ltC hx h (by decide)) (fun h => ltC hx h (by decide))
        obtain ⟨a1, a2⟩ := settleM hx (x1 := r) s2 S 400 L σ h (by omega) (by omega)
        have sl := setO_len (s := nx p) S
        obtain ⟨σ1, q1⟩ : ∃ σ1, σ1 = LF_X12_settle 400 0 r σ := ⟨_, rfl⟩
        rw [← q1] at a1 a2
        obtain ⟨c1, c2⟩ := pushM0 (v := r) (c := nx p) a1 (by rw [List.length_append]; omega) s2 (by omega)
        obtain ⟨d1, d2⟩ := advM hx c1 hp
        have k := ih true (nx p :: setS (nx p) S) (p + 1) (L ++ setO (nx p) S) _ n (1 : Int32) d1 (by rw [List.length_append, List.length_cons]; omega) (okS_c (by omega) (fun x hx9 => hok x (setS_sub S x hx9))) (by omega) (by omega) ⟨fun _ => by decide, fun _ => rfl⟩
        have E1 : LF_X12_takesE (n + 1) 1 x1 0 r σ = LF_X12_takesE n 0 x1 1 0 (si (si (si σ1 123 (gi σ1 74 25).toNatClampNeg r) 74 25 ((gi (si σ1 123 (gi σ1 74 25).toNatClampNeg r) 74 25) + (1 : Int32))) 74 14 ((gi (si (si σ1 123 (gi σ1 74 25).toNatClampNeg r) 74 25 ((gi (si σ1 123 (gi σ1 74 25).toNatClampNeg r) 74 25) + (1 : Int32))) 74 14) + (1 : Int32))) := by
          show LB_X12_takesE_122 (LF_X12_takesE n) x1 r σ = _
          unfold LB_X12_takesE_122 F_X12_settle
          rw [← q1, fl_e, fl_e, fl_e, fl_e]
        rw [if_pos q]
        rcases hr with hr | hr
        · rw [if_pos hr, E1]
          exact REm_tr (FXe_m (FXm_tr a2 (FXm_tr c2 d2))) k
        · rw [if_neg (by rw [hr]; decide), if_pos hr, E1]
          exact REm_tr (FXe_m (FXm_tr a2 (FXm_tr c2 d2))) k
      · have q38 : ¬ r = 38 := fun h9 => q (Or.inl (by rw [← s2, h9]; rfl))
        have q124 : ¬ r = 124 := fun h9 => q (Or.inr (by rw [← s2, h9]; rfl))
        rw [if_neg q38, if_neg q124, if_neg q, fl_e, fl_e]
        obtain ⟨a1, a2⟩ := settleM hx (x1 := 124) (s := 124) rfl S 400 L σ h (by omega) (by omega)
        have sl := setO_len (s := 124) S
        obtain ⟨σ6, q6⟩ : ∃ σ6, σ6 = F_X12_settle (124 : Int32) σ := ⟨_, rfl⟩
        rw [show LF_X12_settle 400 0 124 σ = σ6 from q6.symm] at a1 a2
        rw [← q6]
        have cn := a1.cn
        obtain ⟨b1, b2⟩ := toM (c := x1.toNatClampNeg) (v := gi σ6 74 24) a1
        obtain ⟨σ8, q8⟩ : ∃ σ8, σ8 = si σ6 121 x1.toNatClampNeg (gi σ6 74 24) := ⟨_, rfl⟩
        rw [← q8] at b1 b2 ⊢
        have g8 : gi σ8 121 x1.toNatClampNeg = gi σ6 74 24 := by rw [q8, gi_si_eq]
        have wn := b1.wn
        have f8 : FXe b x1.toNatClampNeg σ σ8 := FXe_tr (FXe_m a2) b2
        have okk : okS (setS 124 S) := fun x hx9 => hok x (setS_sub S x hx9)
        have hd := setS_hd (s := 124) S
        generalize setS 124 S = S1 at b1 wn sl okk hd ⊢
        cases S1 with
        | nil =>
          have w0 : gi σ8 74 25 = 0 := Int32.toInt_inj.mp wn
          rw [if_pos w0]
          have sl : (setO 124 S).length + 0 = S.length := sl
          refine ⟨fun _ => ⟨rfl, b1, ?_, ?_⟩, fun h9 => (by cases h9), f8⟩
          · rw [g8]; exact cn
          · show (L ++ setO 124 S).length + k0 ≤ p
            rw [List.length_append]; omega
        | cons c S1 =>
          have wl : (c :: S1).length = S1.length + 1 := rfl
          have w0 : ¬ gi σ8 74 25 = 0 := fun h9 => by
            rw [h9] at wn
            have z : (0 : Int32).toInt = 0 := rfl
            omega
          have hc : c = 33 ∨ c = 40 := by
            have h8 := okk c (List.mem_cons_self ..)
            have h7 := hd c S1 rfl
            omega
          rw [if_neg w0]
          show REm nx e b k0 x1 σ _ (if nx p = 41 then _ else _)
          by_cases q41 : nx p = 41
          · obtain ⟨c1, c2⟩ := popM1 b1 hc
            obtain ⟨d1, d2⟩ := advM hx c1 (ltC hx q41 (by decide))
            rw [if_pos (Int32.toInt_inj.mp (by rw [s2, q41, z41])), if_pos q41, fl_e, fl_e, fl_e, fl_e]
            obtain ⟨σd, qd⟩ : ∃ σd, σd = si (si (si σ8 74 25 ((gi σ8 74 25) - (1 : Int32))) 74 26 ((gi (si σ8 74 25 ((gi σ8 74 25) - (1 : Int32))) 74 26) - (1 : Int32))) 74 14 ((gi (si (si σ8 74 25 ((gi σ8 74 25) - (1 : Int32))) 74 26 ((gi (si σ8 74 25 ((gi σ8 74 25) - (1 : Int32))) 74 26) - (1 : Int32))) 74 14) + (1 : Int32)) := ⟨_, rfl⟩
            rw [← qd] at d1 d2 ⊢
            have ll : (L ++ setO 124 S).length = L.length + (setO 124 S).length := List.length_append
            obtain ⟨y1, y2⟩ := wholeM hx S1 200 _ _ d1 (by omega) (by omega)
            have nl := nots_len S1
            have k := ih false (popN S1) (p + 1) _ _ (n + 1) x2 y1 (by rw [List.length_append]; omega) (fun x hx9 => okk x (List.mem_cons_of_mem _ (popN_sub S1 x hx9))) (by omega) (by omega) ⟨fun h9 => (by cases h9), fun h9 => absurd hx2 h9⟩
            exact REm_tr (FXe_tr f8 (FXe_tr (FXe_m c2) (FXe_tr (FXe_m d2) (FXe_m y2)))) k
          · rw [if_neg (fun h9 => q41 (by rw [← s2, h9]; rfl)), if_neg q41]
            exact ⟨fun h9 => (by cases h9), fun _ => ⟨rfl, b1.at_⟩, f8⟩
    | true =>
      have hx2 : ¬ x2 = 0 := hw.mp rfl
      rw [if_neg hx2, prun_t]
      by_cases q : nx p = 33 ∨ nx p = 40
      · have hp : p < e := q.elim (fun h => ltC hx h (by decide)) (fun h => ltC hx h (by decide))
        have hr : r = 33 ∨ r = 40 := q.elim (fun h => Or.inl (Int32.toInt_inj.mp (by rw [s2, h, z33]))) (fun h => Or.inr (Int32.toInt_inj.mp (by rw [s2, h, z40])))
        have op := h.op
        have z4 : (4 : Int32).toInt = 4 := rfl
        have E1 : (if r = (33 : Int32) then LF_X12_takesE (n + 1) 2 x1 x2 r σ else (if r = (40 : Int32) then LF_X12_takesE (n + 1) 2 x1 x2 r σ else fb (F_X12_takesTest σ) (fun r18 σ17 => (if r18 = 0 then ((0 : Int32), σ17) else LF_X12_takesE (n + 1) 0 x1 (0 : Int32) 0 σ17)))) = LB_X12_takesE_43 (LF_X12_takesE n) x1 x2 r σ := by
          rcases hr with hr | hr
          · rw [if_pos hr]; exact Eq.trans rfl rfl
          · rw [if_neg (by rw [hr]; decide), if_pos hr]; exact Eq.trans rfl rfl
        rw [E1, if_pos q]
        unfold LB_X12_takesE_43
        by_cases h4 : opn S = 4
        · rw [if_pos (Int32.toInt_inj.mp (by rw [op, h4, z4]; rfl)), if_pos h4]
          exact ⟨fun h9 => (by cases h9), fun _ => ⟨rfl, h.at_⟩, FXe_m FXm_rf⟩
        · rw [if_neg (fun h9 => h4 (by rw [h9, z4] at op; omega)), if_neg h4, fl_e]
          obtain ⟨σ2, e2⟩ : ∃ σ2, σ2 = si σ 74 26 ((gi σ 74 26) + (1 : Int32)) := ⟨_, rfl⟩
          rw [← e2, fl_e, fl_e, fl_e]
          obtain ⟨c1, c2⟩ := pushM1 (v := r) (c := nx p) h (by omega) s2 q σ2 e2
          obtain ⟨d1, d2⟩ := advM hx c1 hp
          have k := ih true (nx p :: S) (p + 1) L _ n x2 d1 (by rw [List.length_cons]; omega) (okS_c (by omega) hok) (by omega) (by omega) ⟨fun _ => hx2, fun _ => rfl⟩
          exact REm_tr (FXe_m (FXm_tr c2 d2)) k
      · have q33 : ¬ r = 33 := fun h9 => q (Or.inl (by rw [← s2, h9]; rfl))
        have q40 : ¬ r = 40 := fun h9 => q (Or.inr (by rw [← s2, h9]; rfl))
        rw [if_neg q33, if_neg q40, if_neg q]
        have t := testM hx h (by omega)
        by_cases ht : (ptest nx p).1 = true
        · obtain ⟨σ', t1, t2, t3, t4⟩ := t.1 ht
          have t5 := ptest_le hx ht
          have nl := nots_len S
          rw [t1, fb_e, if_neg (show ¬ (1 : Int32) = 0 by decide), if_pos ht]
          have k := ih false (popN S) _ _ _ (n + 1) (0 : Int32) t2 (by rw [List.length_append, List.length_append]; omega) (fun x hx9 => hok x (popN_sub S x hx9)) (by omega) (by omega) ⟨fun h9 => (by cases h9), fun h9 => absurd rfl h9⟩
          exact REm_tr (FXe_m t4) k
        · have ht' : (ptest nx p).1 = false := Bool.eq_false_iff.mpr ht
          obtain ⟨σ', t1, t2, t3⟩ := t.2 ht'
          rw [t1, fb_e, if_pos rfl, if_neg ht]
          exact ⟨fun h9 => (by cases h9), fun _ => ⟨rfl, t2⟩, FXe_m t3⟩
