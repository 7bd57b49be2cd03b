/-! the model's E at a mower -/
noncomputable def FXp (σ σ' : Sg) : Prop := FX (fun id => id = 129) (fun _ _ => False) σ σ'
theorem FXp_rf {σ : Sg} : FXp σ σ := FX_rf
theorem FXp_tr {σ σ1 σ2 : Sg} (f : FXp σ σ1) (g : FXp σ1 σ2) : FXp σ σ2 := FX_tr f g (fun _ h => h) (fun _ _ h => Or.inr h)
theorem FXp_i {σ σ1 : Sg} (f : FXp σ σ1) {id k : Nat} (h : id ≠ 129) : gi σ1 id k = gi σ id k := FX_i f h (fun z => z)
theorem FXp_s {σ : Sg} {k : Nat} {v : Int32} : FXp σ (si σ 129 k v) := FX_si FX_rf (Or.inl rfl)
noncomputable def WSp (σ : Sg) : Nat → List Bool → Prop
  | 0, [] => True
  | n + 1, b :: S => gi σ 129 n = bIn b ∧ WSp σ n S
  | _, _ => False
theorem WSp_up {σ : Sg} {k : Nat} {v : Int32} : ∀ n S, n ≤ k → WSp σ n S → WSp (si σ 129 k v) n S := by
  intro n
  induction n with
  | zero => intro S _; cases S <;> exact id
  | succ n ih =>
    intro S hk
    cases S with
    | nil => exact id
    | cons b S => exact fun w => ⟨by rw [gi_si_ne (Or.inr (by omega))]; exact w.1, ih S (by omega) w.2⟩
theorem nz0 : vp_nar .boolean (0 : Int32) = bIn false := by decide
theorem nz1 : vp_nar .boolean (1 : Int32) = bIn true := by decide
/-- a test at a mower, as the model asks it -/
noncomputable def FCM (L : Nat → Int) (x2 : Int32) (σ : Sg) : Prop := ∀ τ, FXp σ τ → ∀ (x : Int32) (f : Nat), x.toInt = (f : Int) → f ≤ 5 → ∃ r, F_X12_factOf x x2 τ = (r, τ) ∧ r.toInt = L f
theorem FCM_p {L : Nat → Int} {x2 : Int32} {σ σ1 : Sg} (h : FCM L x2 σ) (f : FXp σ σ1) : FCM L x2 σ1 := fun τ g => h τ (FXp_tr f g)
set_option maxHeartbeats 4000000 in
theorem holdsM {c : Nat} {L : Nat → Int} {x1 x2 : Int32} (hc1 : x1.toNatClampNeg = c) :
    ∀ (ts : List Tok) (S : List Bool) (n : Nat) (x3 x4 : Int32) (i : Nat) (σ : Sg), Wf 11 S.length ts 1 → S.length ≤ 11 → x3.toInt = (S.length : Int) → x4.toInt = (i : Int) → (gi σ 121 c).toInt = ((i + ts.length : Nat) : Int) → i + ts.length ≤ 700 → (∀ j t, ts[j]? = some t → gi σ 122 (i + j) = encM t) → WSp σ S.length S → FCM L x2 σ → ts.length < n →
      ∃ σ', LF_X12_holds n x1 x2 x3 x4 σ = (bIn ((eall L ts S).headD false), σ') ∧ FXp σ σ' := by
  intro ts
  induction ts with
  | nil =>
    intro S n x3 x4 i σ hw hl e3 e4 e1 hi _ hS hF hn
    obtain ⟨n, rfl⟩ : ∃ k, n = k + 1 := ⟨n - 1, by omega⟩
    have hw : S.length = 1 := hw
    have e1 : (gi σ 121 c).toInt = (i : Int) := e1
    obtain ⟨b, T, rfl⟩ := ln1 (S := S) (by omega)
    have hT : T = [] := List.length_eq_zero_iff.mp (by have : (b :: T).length = T.length + 1 := rfl; omega)
    subst hT
    refine ⟨σ, ?_, FXp_rf⟩
    show LB_X12_holds_10 (LF_X12_holds n) x1 x2 x3 x4 σ = _
    unfold LB_X12_holds_10
    rw [hc1, if_pos (show gi σ 121 c ≤ x4 from Int32.le_iff_toInt_le.mpr (by omega))]
    rw [show gi σ 129 (0 : Int32).toNatClampNeg = bIn b from hS.1]
    rfl
  | cons t ts ih =>
    intro S n x3 x4 i σ hw hl e3 e4 e1 hi hc hS hF hn
    rw [List.length_cons] at e1 hi hn
    obtain ⟨n, rfl⟩ : ∃ k, n = k + 1 := ⟨n - 1, by omega⟩
    have g : gi σ 122 i = encM t := hc 0 t rfl
    have t9 : (x4 + (1 : Int32)).toInt = x4.toInt + 1 := i_add (y := (1 : Int32)) (by show (_ : Int) ≤ x4.toInt + 1; omega) (by show x4.toInt + 1 ≤ (_ : Int); omega)
    have t8 : (x3 + (1 : Int32)).toInt = x3.toInt + 1 := i_add (y := (1 : Int32)) (by show (_ : Int) ≤ x3.toInt + 1; omega) (by show x3.toInt + 1 ≤ (_ : Int); omega)
    have ec := cl_eq (x := x4) (by omega)
    have e3c := cl_eq (x := x3) (by omega)
    have nx : ∀ σ1, FXp σ σ1 → ∀ j t', ts[j]? = some t' → gi σ1 122 (i + 1 + j) = encM t' := fun σ1 f j t' h => by
      have := hc (j + 1) t' h
      rw [show i + (j + 1) = i + 1 + j from by omega] at this
      rw [FXp_i f (by decide)]
      exact this
    have e1x : ∀ σ1, FXp σ σ1 → (gi σ1 121 c).toInt = ((i + 1 + ts.length : Nat) : Int) := fun σ1 f => by rw [FXp_i f (by decide)]; omega
    show ∃ σ', LB_X12_holds_10 (LF_X12_holds n) x1 x2 x3 x4 σ = _ ∧ _
    unfold LB_X12_holds_10
    rw [hc1, if_neg (show ¬ gi σ 121 c ≤ x4 from fun h9 => by have := Int32.le_iff_toInt_le.mp h9; omega), show x4.toNatClampNeg = i from by omega, g, fl_e]
    cases t with
    | inl q =>
      obtain ⟨f, s, m⟩ := q
      rw [Wf_l] at hw
      obtain ⟨w1, w2, w3, w4, w5⟩ := hw
      replace w2 : f ≤ 5 := w2
      replace w3 : s ≤ 2 := w3
      replace w4 : m ≤ 99 := w4
      obtain ⟨v, hv⟩ : ∃ v, v = encM (Sum.inl (f, s, m)) := ⟨_, rfl⟩
      have ev : v.toInt = ((f * 1000 + s * 100 + m : Nat) : Int) := by rw [hv]; exact Int32.toInt_ofNat_of_lt (by omega)
      have z0 : (0 : Int32).toInt = 0 := rfl
      have z1 : (1 : Int32).toInt = 1 := rfl
      have z33 : (-33 : Int32).toInt = -33 := rfl
      have d3 : (v / (1000 : Int32)).toInt = (f : Int) := by rw [i_div (k := 1000) (by omega) (by decide) rfl, ev]; omega
      obtain ⟨r9, f1, f2⟩ := hF σ FXp_rf _ f d3 w2
      rw [← hv, if_neg (show ¬ v = (-33 : Int32) from fun h9 => by rw [h9] at ev; omega), if_pos (show (0 : Int32) ≤ v from Int32.le_iff_toInt_le.mpr (by omega)), f1, fb_e, fl_e]
      have dm : (v - v / (100 : Int32) * (100 : Int32)).toInt = (m : Int) := by rw [i_rem (k := 100) (by omega) (by decide) rfl, ev]; omega
      have d1 : (v / (100 : Int32)).toInt = ((f * 10 + s : Nat) : Int) := by rw [i_div (k := 100) (by omega) (by decide) rfl, ev]; omega
      have ds : ((v / (100 : Int32)) - (v / (100 : Int32)) / (10 : Int32) * (10 : Int32)).toInt = (s : Int) := by rw [i_rem (k := 10) (by omega) (by decide) rfl, d1]; omega
      obtain ⟨v17, h17⟩ : ∃ v17, v17 = (v - v / (100 : Int32) * (100 : Int32)) := ⟨_, rfl⟩
      obtain ⟨v18, h18⟩ : ∃ v18, v18 = (v / (100 : Int32)) - (v / (100 : Int32)) / (10 : Int32) * (10 : Int32) := ⟨_, rfl⟩
      rw [← h17] at dm ⊢
      rw [← h18] at ds ⊢
      have push : ∀ b : Bool, ∃ σ', LF_X12_holds n x1 x2 (x3 + 1) (x4 + 1) (si σ 129 x3.toNatClampNeg (bIn b)) = (bIn ((eall L ts (b :: S)).headD false), σ') ∧ FXp σ σ' := by
        intro b
        obtain ⟨σ', k1, k2⟩ := ih (b :: S) n (x3 + 1) (x4 + 1) (i + 1) (si σ 129 x3.toNatClampNeg (bIn b)) w5 w1 (by rw [t8]; show x3.toInt + 1 = ((S.length + 1 : Nat) : Int); omega) (by rw [t9]; omega) (e1x _ FXp_s) (by omega) (nx _ FXp_s) (by
          show WSp _ (S.length + 1) (b :: S)
          rw [show x3.toNatClampNeg = S.length from by omega]
          exact ⟨by rw [gi_si_eq], WSp_up _ _ (Nat.le_refl _) hS⟩) (FCM_p hF FXp_s) (by omega)
        exact ⟨σ', k1, FXp_tr FXp_s k2⟩
      show ∃ σ', _ = (bIn ((eall L ts (tvl L (f, s, m) :: S)).headD false), σ') ∧ _
      rcases (show s = 0 ∨ s = 1 ∨ s = 2 by omega) with rfl | rfl | rfl
      · rw [if_pos (show v18 = 0 from Int32.toInt_inj.mp (by omega)), show tvl L (f, 0, m) = decide (L f < (m : Int)) from rfl]
        by_cases q : L f < (m : Int)
        · rw [if_neg (show ¬ v17 ≤ r9 from fun h9 => by have := Int32.le_iff_toInt_le.mp h9; omega), decide_eq_true q, fl_e, fl_e, fl_e, nz1]; exact push true
        · rw [if_pos (show v17 ≤ r9 from Int32.le_iff_toInt_le.mpr (by omega)), decide_eq_false q, fl_e, fl_e, fl_e, nz0]; exact push false
      · rw [if_neg (show ¬ v18 = 0 from fun h9 => by rw [h9] at ds; omega), if_pos (show v18 = (1 : Int32) from Int32.toInt_inj.mp (by omega)), show tvl L (f, 1, m) = decide (L f = (m : Int)) from rfl]
        by_cases q : L f = (m : Int)
        · rw [if_pos (show r9 = v17 from Int32.toInt_inj.mp (by omega)), decide_eq_true q, fl_e, fl_e, fl_e, nz1]; exact push true
        · rw [if_neg (show ¬ r9 = v17 from fun h9 => by rw [h9] at f2; omega), decide_eq_false q, fl_e, fl_e, fl_e, nz0]; exact push false
      · rw [if_neg (show ¬ v18 = 0 from fun h9 => by rw [h9] at ds; omega), if_neg (show ¬ v18 = (1 : Int32) from fun h9 => by rw [h9] at ds; omega), show tvl L (f, 2, m) = decide ((m : Int) < L f) from rfl]
        by_cases q : (m : Int) < L f
        · rw [if_neg (show ¬ r9 ≤ v17 from fun h9 => by have := Int32.le_iff_toInt_le.mp h9; omega), decide_eq_true q, fl_e, fl_e, fl_e, nz1]; exact push true
        · rw [if_pos (show r9 ≤ v17 from Int32.le_iff_toInt_le.mpr (by omega)), decide_eq_false q, fl_e, fl_e, fl_e, nz0]; exact push false
    | inr k =>
      rw [Wf_r] at hw
      by_cases k0 : k = 0
      · subst k0
        rw [if_pos rfl] at hw
        obtain ⟨b, T, rfl⟩ := ln1 hw.1
        have t7 : (x3 - (1 : Int32)).toInt = x3.toInt - 1 := i_pred (by omega)
        have el : (b :: T).length = T.length + 1 := rfl
        have ek : (x3 - (1 : Int32)).toNatClampNeg = T.length := by have := cl_eq (x := x3 - (1 : Int32)) (by omega); omega
        rw [show encM (Sum.inr 0) = (-33 : Int32) from rfl, if_pos rfl, ek]
        show ∃ σ', _ = (bIn ((eall L ts ((!b) :: T)).headD false), σ') ∧ _
        have go : ∀ b2 : Bool, ∃ σ', LF_X12_holds n x1 x2 x3 (x4 + 1) (si σ 129 T.length (bIn b2)) = (bIn ((eall L ts (b2 :: T)).headD false), σ') ∧ FXp σ σ' := by
          intro b2
          obtain ⟨σ', k1, k2⟩ := ih (b2 :: T) n x3 (x4 + 1) (i + 1) (si σ 129 T.length (bIn b2)) hw.2 hl e3 (by rw [t9]; omega) (e1x _ FXp_s) (by omega) (nx _ FXp_s) (show WSp _ (T.length + 1) (b2 :: T) from ⟨by rw [gi_si_eq], WSp_up _ _ (Nat.le_refl _) hS.2⟩) (FCM_p hF FXp_s) (by omega)
          exact ⟨σ', k1, FXp_tr FXp_s k2⟩
        rw [show gi σ 129 T.length = bIn b from hS.1]
        cases b
        · rw [if_pos (show bIn false = 0 from rfl), fl_e, fl_e, nz1]; exact go true
        · rw [if_neg (show ¬ bIn true = 0 by decide), fl_e, fl_e, nz0]; exact go false
      · rw [if_neg k0] at hw
        obtain ⟨a, b, T, rfl⟩ := ln2 hw.1
        have el : (a :: b :: T).length = T.length + 2 := rfl
        have t7 : (x3 - (1 : Int32)).toInt = x3.toInt - 1 := i_pred (by omega)
        have t6 : ((x3 - (1 : Int32)) - (1 : Int32)).toInt = (x3 - (1 : Int32)).toInt - 1 := i_pred (by omega)
        have ek : (x3 - (1 : Int32)).toNatClampNeg = T.length + 1 := by have := cl_eq (x := x3 - (1 : Int32)) (by omega); omega
        have ej : ((x3 - (1 : Int32)) - (1 : Int32)).toNatClampNeg = T.length := by have := cl_eq (x := (x3 - (1 : Int32)) - (1 : Int32)) (by omega); omega
        have hl2 : (b :: T).length ≤ 11 := by have : (b :: T).length = T.length + 1 := rfl; omega
        have go : ∀ b2 : Bool, ∃ σ', LF_X12_holds n x1 x2 (x3 - 1) (x4 + 1) (si σ 129 T.length (bIn b2)) = (bIn ((eall L ts (b2 :: T)).headD false), σ') ∧ FXp σ σ' := by
          intro b2
          obtain ⟨σ', k1, k2⟩ := ih (b2 :: T) n (x3 - 1) (x4 + 1) (i + 1) (si σ 129 T.length (bIn b2)) hw.2 hl2 (by rw [t7]; show x3.toInt - 1 = ((T.length + 1 : Nat) : Int); omega) (by rw [t9]; omega) (e1x _ FXp_s) (by omega) (nx _ FXp_s) (show WSp _ (T.length + 1) (b2 :: T) from ⟨by rw [gi_si_eq], WSp_up _ _ (Nat.le_refl _) hS.2.2⟩) (FCM_p hF FXp_s) (by omega)
          exact ⟨σ', k1, FXp_tr FXp_s k2⟩
        have ga : gi σ 129 (T.length + 1) = bIn a := hS.1
        have gb : gi σ 129 T.length = bIn b := hS.2.1
        rcases (show k = 1 ∨ ∃ j, k = j + 2 from by
          by_cases h : k = 1
          · exact Or.inl h
          · exact Or.inr ⟨k - 2, by omega⟩) with rfl | ⟨j, rfl⟩
        · rw [show encM (Sum.inr 1) = (-38 : Int32) from rfl, if_neg (show ¬ (-38 : Int32) = -33 by decide), if_neg (show ¬ (0 : Int32) ≤ -38 by decide), fl_e, if_pos rfl, ek, ej, ga, gb]
          show ∃ σ', _ = (bIn ((eall L ts ((b && a) :: T)).headD false), σ') ∧ _
          cases b
          · rw [if_pos (show bIn false = 0 from rfl), fl_e, fl_e, nz0]; exact go false
          · rw [if_neg (show ¬ bIn true = 0 by decide)]
            cases a
            · rw [if_pos (show bIn false = 0 from rfl), fl_e, fl_e, nz0]; exact go false
            · rw [if_neg (show ¬ bIn true = 0 by decide), fl_e, fl_e, nz1]; exact go true
        · rw [show encM (Sum.inr (j + 2)) = (-124 : Int32) from rfl, if_neg (show ¬ (-124 : Int32) = -33 by decide), if_neg (show ¬ (0 : Int32) ≤ -124 by decide), fl_e, if_neg (show ¬ (-124 : Int32) = -38 by decide), ek, ej, ga, gb]
          show ∃ σ', _ = (bIn ((eall L ts ((b || a) :: T)).headD false), σ') ∧ _
          cases b
          · rw [if_pos (show bIn false = 0 from rfl)]
            cases a
            · rw [if_pos (show bIn false = 0 from rfl), fl_e, fl_e, nz0]; exact go false
            · rw [if_neg (show ¬ bIn true = 0 by decide), fl_e, fl_e, nz1]; exact go true
          · rw [if_neg (show ¬ bIn true = 0 by decide), fl_e, fl_e, nz1]; exact go true
