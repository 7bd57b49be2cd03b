/-! acts: the bodies that run, what they answer -/
noncomputable def mowV (κ : Nat) (i v x : Int32) : Int32 := if κ = 2 ∨ κ = 5 then x * (3 : Int32) + i else if κ = 4 then -(x + i) else if κ = 6 then (x + i) ^^^ v else x + i
noncomputable def mowB (κ : Nat) : List Int32 := if κ = 2 ∨ κ = 5 then [30, 10] else if κ = 4 then [50, 10] else if κ = 6 then [71, 10] else [10]
noncomputable def whetV (κ : Nat) (i v x : Int32) : Int32 := if κ = 1 then (mowV κ i v x - v) ^^^ (6 : Int32) else if κ = 4 then (mowV κ i v (x + (1 : Int32)) - v) ^^^ (6 : Int32) else if κ = 6 then (mowV κ i v x - v) + ((2 : Int32) + i) else mowV κ i v x - v
noncomputable def whetB (κ : Nat) : List Int32 := if κ = 1 then 20 :: 11 :: mowB κ else if κ = 4 then 51 :: 20 :: 11 :: mowB κ else if κ = 6 then 70 :: 11 :: (mowB κ ++ [10]) else 11 :: mowB κ
noncomputable def tellV (κ : Nat) (i v x : Int32) : Int32 := if κ = 3 ∨ κ = 6 then whetV κ i v x * (2 : Int32) + whetV κ i v 1 else if κ = 5 then whetV κ i v (x - i) * (2 : Int32) else whetV κ i v x * (2 : Int32)
noncomputable def tellB (κ : Nat) : List Int32 := if κ = 3 ∨ κ = 6 then 40 :: 12 :: (whetB κ ++ whetB κ) else if κ = 5 then 60 :: 12 :: whetB κ else 12 :: whetB κ
noncomputable def cls (κ : Nat) : Nat := if κ = 0 then 4 else if κ = 1 then 8 else if κ = 2 then 3 else if κ = 3 then 0 else if κ = 4 then 6 else if κ = 5 then 7 else 10
noncomputable def trX (bs : List Int32) (σ : Sg) : Sg := bs.foldl (fun s b => F_X5_comes 64 b s) σ
noncomputable def trM (bs : List Int32) (σ : Sg) : Sg := bs.foldl (fun s b => F_X12_body b s) σ
theorem trX_app {a b : List Int32} {σ : Sg} : trX (a ++ b) σ = trX b (trX a σ) := List.foldl_append
theorem trM_app {a b : List Int32} {σ : Sg} : trM (a ++ b) σ = trM b (trM a σ) := List.foldl_append
theorem trX_c {b : Int32} {bs : List Int32} {σ : Sg} : trX (b :: bs) σ = trX bs (F_X5_comes 64 b σ) := Eq.trans rfl rfl
theorem trM_c {b : Int32} {bs : List Int32} {σ : Sg} : trM (b :: bs) σ = trM bs (F_X12_body b σ) := Eq.trans rfl rfl
theorem trX_n {σ : Sg} : trX [] σ = σ := Eq.trans rfl rfl
theorem trM_n {σ : Sg} : trM [] σ = σ := Eq.trans rfl rfl
theorem gi_comes64 {b : Int32} {σ : Sg} {a k : Nat} (h1 : a ≠ 64) (h2 : a ≠ 65) : gi (F_X5_comes 64 b σ) a k = gi σ a k := by
  unfold F_X5_comes
  simp only [fl_mk]
  split
  · rw [gi_si_ne (Or.inl h1)]
  · rw [gi_si_ne (Or.inl h1), gi_si_ne (Or.inl (by omega))]
theorem gi_body {b : Int32} {σ : Sg} {a k : Nat} (h1 : a ≠ 74) (h2 : a ≠ 170) : gi (F_X12_body b σ) a k = gi σ a k := by
  unfold F_X12_body
  simp only [fl_mk]
  split
  · rw [gi_si_ne (Or.inl h1)]
  · rw [gi_si_ne (Or.inl h1), gi_si_ne (Or.inl h2)]
theorem gi_trX {bs : List Int32} {σ : Sg} {a k : Nat} (h1 : a ≠ 64) (h2 : a ≠ 65) : gi (trX bs σ) a k = gi σ a k := by
  induction bs generalizing σ with
  | nil => rfl
  | cons b bs ih => rw [trX_c, ih, gi_comes64 h1 h2]
theorem gi_trM {bs : List Int32} {σ : Sg} {a k : Nat} (h1 : a ≠ 74) (h2 : a ≠ 170) : gi (trM bs σ) a k = gi σ a k := by
  induction bs generalizing σ with
  | nil => rfl
  | cons b bs ih => rw [trM_c, ih, gi_body h1 h2]
/-- what ran: the class's row in one state, the model's in another -/
noncomputable def TP (σ τ : Sg) : Prop := gi σ 64 1 = gi τ 74 69 ∧ ∀ k : Nat, k < 20 → gi σ 65 k = gi τ 170 k
theorem TP_b {σ τ : Sg} {b : Int32} (h : TP σ τ) (h0 : 0 ≤ (gi τ 74 69).toInt) : TP (F_X5_comes 64 b σ) (F_X12_body b τ) := by
  obtain ⟨h1, h2⟩ := h
  have e20 : Int32.ofNat (nl 64) = (20 : Int32) := by decide +kernel
  unfold F_X5_comes F_X12_body TP
  simp only [fl_mk]
  rw [e20, h1]
  by_cases c : (20 : Int32) ≤ gi τ 74 69
  · rw [if_pos c, if_pos c]
    refine ⟨by rw [gi_si_eq, gi_si_eq], fun k hk => ?_⟩
    rw [gi_si_ne (Or.inl (by decide)), gi_si_ne (Or.inl (by decide))]
    exact h2 k hk
  · rw [if_neg c, if_neg c]
    refine ⟨by rw [gi_si_eq, gi_si_eq, gi_si_ne (Or.inl (by decide)), gi_si_ne (Or.inl (by decide)), h1], fun k hk => ?_⟩
    have l1 : ∀ n v, gi (si (si σ (64 + 1) n b) 64 1 v) 65 k = if k = n then b else gi σ 65 k := fun n v => by
      rw [gi_si_ne (Or.inl (by decide)), gi_si]; simp
    have l2 : ∀ n v, gi (si (si τ 170 n b) 74 69 v) 170 k = if k = n then b else gi τ 170 k := fun n v => by
      rw [gi_si_ne (Or.inl (by decide)), gi_si]; simp
    rw [l1, l2]
    by_cases e : k = (gi τ 74 69).toNatClampNeg
    · rw [if_pos e, if_pos e]
    · rw [if_neg e, if_neg e]
      exact h2 k hk
theorem body_n {b : Int32} {τ : Sg} (h : 0 ≤ (gi τ 74 69).toInt) (h2 : (gi τ 74 69).toInt ≤ 2000) : (gi (F_X12_body b τ) 74 69).toInt = (gi τ 74 69).toInt + 1 := by
  have e : ((gi τ 74 69) + (1 : Int32)).toInt = (gi τ 74 69).toInt + 1 := i_add (y := (1 : Int32)) (by show (_ : Int) ≤ (gi τ 74 69).toInt + 1; omega) (by show (gi τ 74 69).toInt + 1 ≤ (_ : Int); omega)
  unfold F_X12_body
  simp only [fl_mk]
  split
  · rw [gi_si_eq]; exact e
  · rw [gi_si_eq, gi_si_ne (Or.inl (by decide))]; exact e
theorem TP_tr {bs : List Int32} {σ τ : Sg} (h : TP σ τ) (h0 : 0 ≤ (gi τ 74 69).toInt) (h1 : (gi τ 74 69).toInt + bs.length ≤ 2000) : TP (trX bs σ) (trM bs τ) := by
  induction bs generalizing σ τ with
  | nil => exact h
  | cons b bs ih =>
    rw [trX_c, trM_c]
    have hl : ((b :: bs).length : Int) = (bs.length : Int) + 1 := by simp
    have hn := body_n (b := b) h0 (by omega)
    exact ih (TP_b h h0) (by omega) (by omega)
section Acts
variable {μ κ : Nat} {x : Int32} {σ : Sg}
theorem X_mow (hk : kd μ = (10 + cls κ, 0)) (hκ : κ < 7) (hμ : 2000 ≤ μ) : F_KD_mowing (cls κ) μ x 64 σ = (mowV κ (gi σ μ 1) (gi σ μ 2) x, trX (mowB κ) σ) := by
  have e : ∀ b s k, gi (F_X5_comes 64 b s) μ k = gi s μ k := fun b s k => gi_comes64 (by omega) (by omega)
  have h : κ = 0 ∨ κ = 1 ∨ κ = 2 ∨ κ = 3 ∨ κ = 4 ∨ κ = 5 ∨ κ = 6 := by omega
  rcases h with rfl | rfl | rfl | rfl | rfl | rfl | rfl <;> simp [F_KD_mowing, cls, F_X4_mowing, F_X3_mowing, F_X6_mowing, F_X10_mowing, fl_mk, fb, mowV, mowB, trX, e]
theorem X_mwhet (hk : kd μ = (10 + cls κ, 0)) (hκ : κ < 7) (hμ : 2000 ≤ μ) : F_X4_whetting μ x 64 σ = (mowV κ (gi σ μ 1) (gi σ μ 2) x - gi σ μ 2, trX (11 :: mowB κ) σ) := by
  unfold F_X4_whetting
  rw [fl_mk, hk, show (10 + cls κ, 0).1 - 10 = cls κ from Nat.add_sub_cancel_left _ _, X_mow hk hκ hμ, fb_mk, gi_trX (by omega) (by omega), gi_comes64 (by omega) (by omega), gi_comes64 (by omega) (by omega)]
  rfl
theorem X_whet (hk : kd μ = (10 + cls κ, 0)) (hκ : κ < 7) (hμ : 2000 ≤ μ) : F_KD_whetting (cls κ) μ x 64 σ = (whetV κ (gi σ μ 1) (gi σ μ 2) x, trX (whetB κ) σ) := by
  have e : ∀ b s k, gi (F_X5_comes 64 b s) μ k = gi s μ k := fun b s k => gi_comes64 (by omega) (by omega)
  have e2 : ∀ bs s k, gi (trX bs s) μ k = gi s μ k := fun b s k => gi_trX (by omega) (by omega)
  have w : ∀ y s, F_X4_whetting μ y 64 s = (mowV κ (gi s μ 1) (gi s μ 2) y - gi s μ 2, trX (11 :: mowB κ) s) := fun y s => X_mwhet hk hκ hμ
  have h : κ = 0 ∨ κ = 1 ∨ κ = 2 ∨ κ = 3 ∨ κ = 4 ∨ κ = 5 ∨ κ = 6 := by omega
  rcases h with rfl | rfl | rfl | rfl | rfl | rfl | rfl
  · rw [show F_KD_whetting (cls _) μ x 64 σ = F_X4_whetting μ x 64 σ by simp [F_KD_whetting, cls]]; rw [w]; simp [whetV, whetB, trX_c, trX_app, trX_n]
  · rw [show F_KD_whetting (cls _) μ x 64 σ = F_X8_whetting μ x 64 σ by simp [F_KD_whetting, cls]]; unfold F_X8_whetting; rw [fl_mk, w, fb_mk, e, e]; simp [whetV, whetB, trX_c, trX_app, trX_n]
  · rw [show F_KD_whetting (cls _) μ x 64 σ = F_X4_whetting μ x 64 σ by simp [F_KD_whetting, cls]]; rw [w]; simp [whetV, whetB, trX_c, trX_app, trX_n]
  · rw [show F_KD_whetting (cls _) μ x 64 σ = F_X4_whetting μ x 64 σ by simp [F_KD_whetting, cls]]; rw [w]; simp [whetV, whetB, trX_c, trX_app, trX_n]
  · rw [show F_KD_whetting (cls _) μ x 64 σ = F_X6_whetting μ x 64 σ by simp [F_KD_whetting, cls]]; unfold F_X6_whetting F_X8_whetting; rw [fl_mk, fl_mk, w, fb_mk, fb_mk, e, e, e, e]; simp [whetV, whetB, trX_c, trX_app, trX_n]
  · rw [show F_KD_whetting (cls _) μ x 64 σ = F_X4_whetting μ x 64 σ by simp [F_KD_whetting, cls]]; rw [w]; simp [whetV, whetB, trX_c, trX_app, trX_n]
  · rw [show F_KD_whetting (cls _) μ x 64 σ = F_X10_whetting μ x 64 σ by simp [F_KD_whetting, cls]]; unfold F_X10_whetting F_X4_mowing; rw [fl_mk, w, fb_mk, fl_mk, fb_mk, e, e, e, e2, e]; simp [whetV, whetB, trX_c, trX_app, trX_n]
theorem X_mtell (hk : kd μ = (10 + cls κ, 0)) (hκ : κ < 7) (hμ : 2000 ≤ μ) : F_X4_telling μ x 64 σ = (whetV κ (gi σ μ 1) (gi σ μ 2) x * (2 : Int32), trX (12 :: whetB κ) σ) := by
  unfold F_X4_telling
  rw [fl_mk, hk, show (10 + cls κ, 0).1 - 10 = cls κ from Nat.add_sub_cancel_left _ _, X_whet hk hκ hμ, fb_mk, gi_comes64 (by omega) (by omega), gi_comes64 (by omega) (by omega)]
  rfl
theorem X_tell (hk : kd μ = (10 + cls κ, 0)) (hκ : κ < 7) (hμ : 2000 ≤ μ) : F_KD_telling (cls κ) μ x 64 σ = (tellV κ (gi σ μ 1) (gi σ μ 2) x, trX (tellB κ) σ) := by
  have e : ∀ b s k, gi (F_X5_comes 64 b s) μ k = gi s μ k := fun b s k => gi_comes64 (by omega) (by omega)
  have e2 : ∀ bs s k, gi (trX bs s) μ k = gi s μ k := fun b s k => gi_trX (by omega) (by omega)
  have w : ∀ y s, F_X4_telling μ y 64 s = (whetV κ (gi s μ 1) (gi s μ 2) y * (2 : Int32), trX (12 :: whetB κ) s) := fun y s => X_mtell hk hκ hμ
  have v : ∀ y s, F_KD_whetting ((kd μ).1 - 10) μ y 64 s = (whetV κ (gi s μ 1) (gi s μ 2) y, trX (whetB κ) s) := fun y s => by
    rw [hk, show (10 + cls κ, 0).1 - 10 = cls κ from Nat.add_sub_cancel_left _ _]; exact X_whet hk hκ hμ
  have h : κ = 0 ∨ κ = 1 ∨ κ = 2 ∨ κ = 3 ∨ κ = 4 ∨ κ = 5 ∨ κ = 6 := by omega
  rcases h with rfl | rfl | rfl | rfl | rfl | rfl | rfl
  · rw [show F_KD_telling (cls _) μ x 64 σ = F_X4_telling μ x 64 σ by simp [F_KD_telling, cls]]; rw [w]; simp [tellV, tellB, trX_c]
  · rw [show F_KD_telling (cls _) μ x 64 σ = F_X4_telling μ x 64 σ by simp [F_KD_telling, cls]]; rw [w]; simp [tellV, tellB, trX_c]
  · rw [show F_KD_telling (cls _) μ x 64 σ = F_X4_telling μ x 64 σ by simp [F_KD_telling, cls]]; rw [w]; simp [tellV, tellB, trX_c]
  · rw [show F_KD_telling (cls _) μ x 64 σ = F_X0_telling μ x 64 σ by simp [F_KD_telling, cls]]; unfold F_X0_telling; rw [fl_mk, w, fb_mk, v, fb_mk, e, e, e2, e2, e, e]; simp [tellV, tellB, trX_c, trX_app, trX_n]
  · rw [show F_KD_telling (cls _) μ x 64 σ = F_X4_telling μ x 64 σ by simp [F_KD_telling, cls]]; rw [w]; simp [tellV, tellB, trX_c]
  · rw [show F_KD_telling (cls _) μ x 64 σ = F_X7_telling μ x 64 σ by simp [F_KD_telling, cls]]; unfold F_X7_telling; rw [fl_mk, w, fb_mk, e, e]; simp [tellV, tellB, trX_c]
  · rw [show F_KD_telling (cls _) μ x 64 σ = F_X0_telling μ x 64 σ by simp [F_KD_telling, cls]]; unfold F_X0_telling; rw [fl_mk, w, fb_mk, v, fb_mk, e, e, e2, e2, e, e]; simp [tellV, tellB, trX_c, trX_app, trX_n]
end Acts
section ActsM
variable {a : Int32} {κ : Nat} {x : Int32} {τ : Sg}
theorem M_mow (hk : (gi τ 103 a.toNatClampNeg).toInt = (κ : Int)) (hκ : κ < 7) : F_X12_mowsAct a x τ = (mowV κ a (gi τ 104 a.toNatClampNeg) x, trM (mowB κ) τ) := by
  have e : ∀ b s k, gi (F_X12_body b s) 104 k = gi s 104 k := fun b s k => gi_body (by decide) (by decide)
  have l : ∀ y s, LF_X12_mowsAct 9 a y s = LB_X12_mowsAct_40 (LF_X12_mowsAct 8) a y s := fun y s => rfl
  have h : κ = 0 ∨ κ = 1 ∨ κ = 2 ∨ κ = 3 ∨ κ = 4 ∨ κ = 5 ∨ κ = 6 := by omega
  unfold F_X12_mowsAct
  rw [hk, l]
  rcases h with rfl | rfl | rfl | rfl | rfl | rfl | rfl <;> simp [F_X12_mowerMows, LB_X12_mowsAct_40, fl_mk, fb, mowV, mowB, trM, e]
theorem M_mwhet (hk : (gi τ 103 a.toNatClampNeg).toInt = (κ : Int)) (hκ : κ < 7) : F_X12_mowerWhets a x τ = (mowV κ a (gi τ 104 a.toNatClampNeg) x - gi τ 104 a.toNatClampNeg, trM (11 :: mowB κ) τ) := by
  unfold F_X12_mowerWhets
  rw [fl_mk, M_mow (by rw [gi_body (by decide) (by decide)]; exact hk) hκ, fb_mk, gi_trM (by decide) (by decide), gi_body (by decide) (by decide)]
  rfl
theorem M_whet (hk : (gi τ 103 a.toNatClampNeg).toInt = (κ : Int)) (hκ : κ < 7) : F_X12_whetsAct a x τ = (whetV κ a (gi τ 104 a.toNatClampNeg) x, trM (whetB κ) τ) := by
  have e : ∀ b s k, gi (F_X12_body b s) 104 k = gi s 104 k := fun b s k => gi_body (by decide) (by decide)
  have e3 : ∀ b s k, gi (F_X12_body b s) 103 k = gi s 103 k := fun b s k => gi_body (by decide) (by decide)
  have h : κ = 0 ∨ κ = 1 ∨ κ = 2 ∨ κ = 3 ∨ κ = 4 ∨ κ = 5 ∨ κ = 6 := by omega
  have w : ∀ y s, gi s 103 a.toNatClampNeg = gi τ 103 a.toNatClampNeg → F_X12_mowerWhets a y s = (mowV κ a (gi s 104 a.toNatClampNeg) y - gi s 104 a.toNatClampNeg, trM (11 :: mowB κ) s) := fun y s q => M_mwhet (by rw [q]; exact hk) hκ
  unfold F_X12_whetsAct F_X12_steadyWhets F_X12_mowerMows
  rw [hk]
  simp only [fl_mk]
  rw [w _ _ rfl, w _ (F_X12_body (20 : Int32) τ) (e3 _ _ _), w _ (F_X12_body (20 : Int32) (F_X12_body (51 : Int32) τ)) (by rw [e3, e3]), w _ (F_X12_body (70 : Int32) τ) (e3 _ _ _)]
  simp only [fb_mk, e]
  rcases h with rfl | rfl | rfl | rfl | rfl | rfl | rfl
  all_goals simp [whetV, whetB, trM_c, trM_app, trM_n]
theorem M_mtell (hk : (gi τ 103 a.toNatClampNeg).toInt = (κ : Int)) (hκ : κ < 7) : F_X12_mowerTells a x τ = (whetV κ a (gi τ 104 a.toNatClampNeg) x * (2 : Int32), trM (12 :: whetB κ) τ) := by
  unfold F_X12_mowerTells
  rw [fl_mk, M_whet (by rw [gi_body (by decide) (by decide)]; exact hk) hκ, fb_mk, gi_body (by decide) (by decide)]
  rfl
end ActsM
theorem M_tell {a : Int32} {κ : Nat} {x : Int32} {τ : Sg} (hk : (gi τ 103 a.toNatClampNeg).toInt = (κ : Int)) (hκ : κ < 7) : F_X12_tellsAct a x τ = (tellV κ a (gi τ 104 a.toNatClampNeg) x, trM (tellB κ) τ) := by
  have e : ∀ b s k, gi (F_X12_body b s) 104 k = gi s 104 k := fun b s k => gi_body (by decide) (by decide)
  have e3 : ∀ b s k, gi (F_X12_body b s) 103 k = gi s 103 k := fun b s k => gi_body (by decide) (by decide)
  have e2 : ∀ bs s k, gi (trM bs s) 104 k = gi s 104 k := fun b s k => gi_trM (by decide) (by decide)
  have e4 : ∀ bs s k, gi (trM bs s) 103 k = gi s 103 k := fun b s k => gi_trM (by decide) (by decide)
  have l : ∀ y s, LF_X12_tellsAct 9 a y s = LB_X12_tellsAct_36 (LF_X12_tellsAct 8) a y s := fun y s => rfl
  have w : ∀ y s, gi s 103 a.toNatClampNeg = gi τ 103 a.toNatClampNeg → F_X12_mowerTells a y s = (whetV κ a (gi s 104 a.toNatClampNeg) y * (2 : Int32), trM (12 :: whetB κ) s) := fun y s q => M_mtell (by rw [q]; exact hk) hκ
  have v : ∀ y s, gi s 103 a.toNatClampNeg = gi τ 103 a.toNatClampNeg → F_X12_whetsAct a y s = (whetV κ a (gi s 104 a.toNatClampNeg) y, trM (whetB κ) s) := fun y s q => M_whet (by rw [q]; exact hk) hκ
  have h : κ = 0 ∨ κ = 1 ∨ κ = 2 ∨ κ = 3 ∨ κ = 4 ∨ κ = 5 ∨ κ = 6 := by omega
  unfold F_X12_tellsAct
  rw [hk, l]
  unfold LB_X12_tellsAct_36
  simp only [fl_mk]
  rw [w _ τ rfl, w _ (F_X12_body (60 : Int32) τ) (e3 _ _ _), w _ (F_X12_body (40 : Int32) τ) (e3 _ _ _)]
  simp only [fb_mk]
  rw [v _ (trM (12 :: whetB κ) (F_X12_body (40 : Int32) τ)) (by rw [e4, e3])]
  simp only [fb_mk, e, e2]
  rcases h with rfl | rfl | rfl | rfl | rfl | rfl | rfl
  all_goals simp [tellV, tellB, trM_c, trM_app, trM_n]
/-- the mowers of a course: what the class's objects say, the model's numbers say -/
noncomputable def RK (σ : Sg) (c cn a b : Nat) : Prop := ∀ m : Nat, (m : Int) < (gi σ cn 1).toInt → ∃ μ κ : Nat, gr σ c m = some μ ∧ κ < 7 ∧ 2000 ≤ μ ∧ kd μ = (10 + cls κ, 0) ∧ (gi σ a m).toInt = (κ : Int) ∧ (gi σ μ 0).toInt = (κ : Int) ∧ (gi σ μ 1).toInt = (m : Int) ∧ gi σ μ 2 = gi σ b m
theorem F_isMower {a1 : Int32} {σ : Sg} : F_X11_isMower a1 σ = (if 0 ≤ a1.toInt ∧ a1.toInt < (gi σ 1 1).toInt then (1 : Int32) else 0, σ) := by
  unfold F_X11_isMower
  by_cases c1 : a1.toInt < 0
  · rw [if_pos (i_lt0 c1), if_neg (by omega)]
  rw [if_neg (i_nlt0 (by omega))]
  by_cases c2 : (gi σ 1 1).toInt ≤ a1.toInt
  · rw [if_pos (i_le c2), if_neg (by omega)]
  · rw [if_neg (i_nle (by omega)), if_pos (by omega)]
theorem F_misMower {a1 : Int32} {σ : Sg} (h0 : 0 ≤ (gi σ 74 0).toInt) : F_X12_isMower a1 σ = (if 0 ≤ a1.toInt ∧ a1.toInt < (gi σ 74 0).toInt then (1 : Int32) else 0, σ) := by
  unfold F_X12_isMower
  have e : ((gi σ 74 0) - (1 : Int32)).toInt = (gi σ 74 0).toInt - 1 := i_sub (y := (1 : Int32)) (by show (_ : Int) ≤ (gi σ 74 0).toInt - 1; omega) (by show (gi σ 74 0).toInt - 1 ≤ (_ : Int); have := Int32.toInt_lt (gi σ 74 0); omega)
  have z : (0 : Int32).toInt = 0 := rfl
  rw [F_in, fb_mk, e, z]
  by_cases c : 0 ≤ a1.toInt ∧ a1.toInt < (gi σ 74 0).toInt
  · rw [if_pos c, if_pos (by omega)]
  · rw [if_neg c, if_neg (by omega)]
theorem fm_mk {β : Type} {o : Option Nat} {a ci z : Nat} {A : β} {f : Nat → Nat → β} (e : o = some a) (hk : kd a = (10 + ci, z)) : fm o A f = f a ci := (f_m e hk rfl).symm
theorem N_xact {a1 a2 a3 : Int32} {σ : Sg} (hR : RK σ 2 1 103 104) : ∀ m κ μ : Nat, (0 ≤ a1.toInt ∧ a1.toInt < (gi σ 1 1).toInt) → a1.toNatClampNeg = m → gr σ 2 m = some μ → κ < 7 → 2000 ≤ μ → kd μ = (10 + cls κ, 0) → F_X11_act a1 a2 a3 σ = (if a2.toInt = 0 then (mowV κ (gi σ μ 1) (gi σ μ 2) a3, trX (mowB κ) (si σ 64 1 0)) else if a2.toInt = 1 then (whetV κ (gi σ μ 1) (gi σ μ 2) a3, trX (whetB κ) (si σ 64 1 0)) else if a2.toInt = 2 then (tellV κ (gi σ μ 1) (gi σ μ 2) a3, trX (tellB κ) (si σ 64 1 0)) else ((0 : Int32), si σ 64 1 0)) := by
  intro m κ μ hc hm hg hκ hμ hk
  have e : ∀ k, gi (si σ 64 1 0) μ k = gi σ μ k := fun k => gi_si_ne (Or.inl (by omega))
  unfold F_X11_act
  rw [fl_mk, F_isMower, fb_mk, ite_10, gi_si_ne (Or.inl (by decide)), if_pos hc, gr_si, hm, fm_mk hg hk, X_mow hk hκ hμ, X_whet hk hκ hμ, X_tell hk hκ hμ]
  simp only [fb_mk, e]
theorem N_mact {a1 a2 a3 : Int32} {τ : Sg} {κ : Nat} (h0 : 0 ≤ (gi τ 74 0).toInt) (hc : 0 ≤ a1.toInt ∧ a1.toInt < (gi τ 74 0).toInt) (hκ : κ < 7) (hk : (gi τ 103 a1.toNatClampNeg).toInt = (κ : Int)) : F_X12_act a1 a2 a3 τ = (if a2.toInt = 0 then (mowV κ a1 (gi τ 104 a1.toNatClampNeg) a3, trM (mowB κ) (si τ 74 69 0)) else if a2.toInt = 1 then (whetV κ a1 (gi τ 104 a1.toNatClampNeg) a3, trM (whetB κ) (si τ 74 69 0)) else if a2.toInt = 2 then (tellV κ a1 (gi τ 104 a1.toNatClampNeg) a3, trM (tellB κ) (si τ 74 69 0)) else ((0 : Int32), si τ 74 69 0)) := by
  have e : ∀ k, gi (si τ 74 69 0) 104 k = gi τ 104 k := fun k => gi_si_ne (Or.inl (by decide))
  have e3 : ∀ k, gi (si τ 74 69 0) 103 k = gi τ 103 k := fun k => gi_si_ne (Or.inl (by decide))
  have e0 : gi (si τ 74 69 0) 74 0 = gi τ 74 0 := gi_si_ne (Or.inr (by decide))
  unfold F_X12_act
  rw [fl_mk, F_misMower (by rw [e0]; exact h0), fb_mk, ite_10, e0, if_pos hc, F_in, fb_mk, ite_10, M_mow (by rw [e3]; exact hk) hκ, M_whet (by rw [e3]; exact hk) hκ, M_tell (by rw [e3]; exact hk) hκ]
  simp only [fb_mk, e]
  have z0 : (0 : Int32).toInt = 0 := rfl
  have z2 : (2 : Int32).toInt = 2 := rfl
  by_cases c0 : a2.toInt = 0
  · rw [if_pos (by omega), if_pos (i_eq (b := (0 : Int32)) c0), if_pos c0]
  rw [if_neg c0]
  by_cases c1 : a2.toInt = 1
  · rw [if_pos (by omega), if_neg (i_ne (b := (0 : Int32)) c0), if_pos (i_eq (b := (1 : Int32)) c1), if_pos c1]
  rw [if_neg c1]
  by_cases c2 : a2.toInt = 2
  · rw [if_pos (by omega), if_neg (i_ne (b := (0 : Int32)) c0), if_neg (i_ne (b := (1 : Int32)) c1), if_pos c2]
  · rw [if_neg (by omega), if_neg c2]
theorem bs_len (κ : Nat) (h : κ < 7) : (mowB κ).length ≤ 100 ∧ (whetB κ).length ≤ 100 ∧ (tellB κ).length ≤ 100 := by
  have h : κ = 0 ∨ κ = 1 ∨ κ = 2 ∨ κ = 3 ∨ κ = 4 ∨ κ = 5 ∨ κ = 6 := by omega
  rcases h with rfl | rfl | rfl | rfl | rfl | rfl | rfl <;> decide
theorem TP_end {σ : Sg} {bs : List Int32} (q : TP σ σ) (hl : bs.length ≤ 100) : TP (trM bs (si (trX bs (si σ 64 1 0)) 74 69 0)) (trM bs (si (trX bs (si σ 64 1 0)) 74 69 0)) := by
  have h0 : TP (si σ 64 1 0) (si (trX bs (si σ 64 1 0)) 74 69 0) := by
    refine ⟨by rw [gi_si_eq, gi_si_eq], fun k hk => ?_⟩
    rw [gi_si_ne (Or.inl (by decide)), gi_si_ne (Or.inl (by decide)), gi_trX (by decide) (by decide), gi_si_ne (Or.inl (by decide))]
    exact q.2 k hk
  have h1 := TP_tr (bs := bs) h0 (by rw [gi_si_eq]; decide) (by rw [gi_si_eq]; show (0 : Int) + _ ≤ 2000; omega)
  refine ⟨?_, fun k hk => ?_⟩
  · rw [gi_trM (by decide) (by decide), gi_si_ne (Or.inl (by decide))]; exact h1.1
  · rw [gi_trM (a := 65) (by decide) (by decide), gi_si_ne (Or.inl (by decide))]; exact h1.2 k hk
/-- act: both answer alike, and what ran is alike -/
theorem TRC_act {a1 a2 a3 r1 r2 : Int32} {σ σ1 σ2 : Sg} (hc : (gi σ 1 1).toInt = (gi σ 74 0).toInt) (h0 : 0 ≤ (gi σ 74 0).toInt) (hR : RK σ 2 1 103 104) (q : TP σ σ) (h1 : F_X11_act a1 a2 a3 σ = (r1, σ1)) (h2 : F_X12_act a1 a2 a3 σ1 = (r2, σ2)) : TP σ2 σ2 ∧ r1 = r2 := by
  by_cases c : 0 ≤ a1.toInt ∧ a1.toInt < (gi σ 1 1).toInt
  · have ec := cl_eq c.1
    obtain ⟨μ, κ, hg, hκ, hμ, hk, k1, k2, k3, k4⟩ := hR a1.toNatClampNeg (by omega)
    rw [N_xact hR _ κ μ c rfl hg hκ hμ hk] at h1
    have ei : gi σ μ 1 = a1 := i_eq (by omega)
    rw [ei, k4] at h1
    obtain ⟨l1, l2, l3⟩ := bs_len κ hκ
    have fr : ∀ bs k, gi (trX bs (si σ 64 1 0)) 103 k = gi σ 103 k ∧ gi (trX bs (si σ 64 1 0)) 104 k = gi σ 104 k ∧ gi (trX bs (si σ 64 1 0)) 74 0 = gi σ 74 0 := fun bs k =>
      ⟨by rw [gi_trX (by decide) (by decide), gi_si_ne (Or.inl (by decide))], by rw [gi_trX (by decide) (by decide), gi_si_ne (Or.inl (by decide))], by rw [gi_trX (by decide) (by decide), gi_si_ne (Or.inl (by decide))]⟩
    have fin : ∀ bs : List Int32, σ1 = trX bs (si σ 64 1 0) → F_X12_act a1 a2 a3 σ1 = (if a2.toInt = 0 then (mowV κ a1 (gi σ 104 a1.toNatClampNeg) a3, trM (mowB κ) (si σ1 74 69 0)) else if a2.toInt = 1 then (whetV κ a1 (gi σ 104 a1.toNatClampNeg) a3, trM (whetB κ) (si σ1 74 69 0)) else if a2.toInt = 2 then (tellV κ a1 (gi σ 104 a1.toNatClampNeg) a3, trM (tellB κ) (si σ1 74 69 0)) else ((0 : Int32), si σ1 74 69 0)) := fun bs e => by
      have f1 := fr bs a1.toNatClampNeg
      rw [← e] at f1
      rw [N_mact (κ := κ) (by rw [f1.2.2]; exact h0) (by rw [f1.2.2, ← hc]; exact c) hκ (by rw [f1.1]; exact k1), f1.2.1]
    by_cases c0 : a2.toInt = 0
    · rw [if_pos c0] at h1
      obtain ⟨rfl, e⟩ := Prod.mk.inj h1
      rw [fin _ e.symm, if_pos c0] at h2
      obtain ⟨rfl, rfl⟩ := Prod.mk.inj h2
      rw [← e]
      exact ⟨TP_end q l1, rfl⟩
    rw [if_neg c0] at h1
    by_cases c1 : a2.toInt = 1
    · rw [if_pos c1] at h1
      obtain ⟨rfl, e⟩ := Prod.mk.inj h1
      rw [fin _ e.symm, if_neg c0, if_pos c1] at h2
      obtain ⟨rfl, rfl⟩ := Prod.mk.inj h2
      rw [← e]
      exact ⟨TP_end q l2, rfl⟩
    rw [if_neg c1] at h1
    by_cases c2 : a2.toInt = 2
    · rw [if_pos c2] at h1
      obtain ⟨rfl, e⟩ := Prod.mk.inj h1
      rw [fin _ e.symm, if_neg c0, if_neg c1, if_pos c2] at h2
      obtain ⟨rfl, rfl⟩ := Prod.mk.inj h2
      rw [← e]
      exact ⟨TP_end q l3, rfl⟩
    · rw [if_neg c2] at h1
      obtain ⟨rfl, e⟩ := Prod.mk.inj h1
      rw [fin [] e.symm, if_neg c0, if_neg c1, if_neg c2] at h2
      obtain ⟨rfl, rfl⟩ := Prod.mk.inj h2
      rw [← e]
      exact ⟨TP_end (bs := []) q (by decide), rfl⟩
  · unfold F_X11_act at h1
    rw [fl_mk, F_isMower, fb_mk, ite_10, gi_si_ne (Or.inl (by decide)), if_neg c] at h1
    obtain ⟨rfl, e⟩ := Prod.mk.inj h1
    have e0 : gi (si σ1 74 69 0) 74 0 = gi σ 74 0 := by rw [gi_si_ne (Or.inr (by decide)), ← e, gi_si_ne (Or.inl (by decide))]
    unfold F_X12_act at h2
    rw [fl_mk, F_misMower (by rw [e0]; exact h0), fb_mk, ite_10, e0, ← hc, if_neg c] at h2
    obtain ⟨rfl, rfl⟩ := Prod.mk.inj h2
    rw [← e]
    exact ⟨TP_end (bs := []) q (by decide), rfl⟩
theorem TRC_trace {a1 r1 r2 : Int32} {σ σ1 σ2 : Sg} (q : TP σ σ) (h1 : F_X11_trace a1 σ = (r1, σ1)) (h2 : F_X12_trace a1 σ1 = (r2, σ2)) : r1 = r2 := by
  have e20 : Int32.ofNat (nl 64) = (20 : Int32) := by decide +kernel
  have z0 : (0 : Int32).toInt = 0 := rfl
  have z19 : (19 : Int32).toInt = 19 := rfl
  have z20 : (20 : Int32).toInt = 20 := rfl
  unfold F_X11_trace F_X5_has at h1
  unfold F_X12_trace at h2
  rw [F_in, fb_mk, ite_10] at h2
  rw [e20] at h1
  by_cases c1 : a1.toInt < 0
  · rw [if_pos (i_lt0 c1), fb_mk, if_pos rfl] at h1
    rw [if_neg (by omega)] at h2
    rw [← (Prod.mk.inj h1).1, ← (Prod.mk.inj h2).1]
  rw [if_neg (i_nlt0 (by omega))] at h1
  by_cases c2 : (gi σ 64 1).toInt ≤ a1.toInt
  · rw [if_pos (i_le c2), fb_mk, if_pos rfl] at h1
    obtain ⟨rfl, rfl⟩ := Prod.mk.inj h1
    rw [q.1] at c2
    by_cases c3 : a1.toInt ≤ 19
    · rw [if_pos (by omega), if_pos (i_le c2)] at h2
      exact (Prod.mk.inj h2).1
    · rw [if_neg (by omega)] at h2
      exact (Prod.mk.inj h2).1
  rw [if_neg (i_nle (by omega))] at h1
  by_cases c3 : (20 : Int) ≤ a1.toInt
  · rw [if_pos (i_le (a := (20 : Int32)) c3), fb_mk, if_pos rfl] at h1
    rw [if_neg (by omega)] at h2
    rw [← (Prod.mk.inj h1).1, ← (Prod.mk.inj h2).1]
  · rw [if_neg (i_nle (a := (20 : Int32)) (by show a1.toInt < 20; omega)), fb_mk, if_neg (by decide)] at h1
    obtain ⟨rfl, rfl⟩ := Prod.mk.inj h1
    rw [q.1] at c2
    have ec := cl_eq (x := a1) (by omega)
    rw [if_pos (by omega), if_neg (i_nle (by omega)), ← q.2 _ (by omega)] at h2
    exact (Prod.mk.inj h2).1
theorem N_isOfKind {μ κ : Nat} {a2 : Int32} {σ : Sg} (hk : kd μ = (10 + cls κ, 0)) (hκ : κ < 7) (h0 : 0 ≤ a2.toInt) (h6 : a2.toInt ≤ 6) : F_X11_isOfKind μ a2 σ = (if a2.toInt = 0 ∨ a2.toInt = (κ : Int) ∨ (a2.toInt = 1 ∧ κ = 4) ∨ (a2.toInt = 2 ∧ κ = 5) ∨ (a2.toInt = 3 ∧ κ = 6) then (1 : Int32) else 0, σ) := by
  have h : κ = 0 ∨ κ = 1 ∨ κ = 2 ∨ κ = 3 ∨ κ = 4 ∨ κ = 5 ∨ κ = 6 := by omega
  have g : a2.toInt = 0 ∨ a2.toInt = 1 ∨ a2.toInt = 2 ∨ a2.toInt = 3 ∨ a2.toInt = 4 ∨ a2.toInt = 5 ∨ a2.toInt = 6 := by omega
  unfold F_X11_isOfKind
  rw [hk, show (10 + cls κ, 0).1 - 10 = cls κ from Nat.add_sub_cancel_left _ _]
  rcases g with g | g | g | g | g | g | g <;> rw [g] <;> rcases h with rfl | rfl | rfl | rfl | rfl | rfl | rfl <;> simp [cls, msub, fl_mk]
theorem KND_taken {a1 a2 r1 r2 : Int32} {σ σ1 σ2 : Sg} (hc : (gi σ 1 1).toInt = (gi σ 74 0).toInt) (h0 : 0 ≤ (gi σ 74 0).toInt) (hR : RK σ 2 1 103 104) (h1 : F_X11_taken a1 a2 σ = (r1, σ1)) (h2 : F_X12_taken a1 a2 σ1 = (r2, σ2)) : r1 = r2 := by
  have z0 : (0 : Int32).toInt = 0 := rfl
  have z6 : (6 : Int32).toInt = 6 := rfl
  unfold F_X11_taken at h1
  unfold F_X12_taken at h2
  rw [F_in, fb_mk, ite_10] at h2
  by_cases c1 : a2.toInt < 0
  · rw [if_pos (i_lt0 c1)] at h1
    rw [if_neg (by omega)] at h2
    rw [← (Prod.mk.inj h1).1, ← (Prod.mk.inj h2).1]
  rw [if_neg (i_nlt0 (by omega))] at h1
  by_cases c2 : (6 : Int) < a2.toInt
  · rw [if_neg (i_nle (b := (6 : Int32)) c2)] at h1
    rw [if_neg (by omega)] at h2
    rw [← (Prod.mk.inj h1).1, ← (Prod.mk.inj h2).1]
  rw [if_pos (i_le (b := (6 : Int32)) (by show a2.toInt ≤ 6; omega)), F_isMower, fb_mk, ite_10] at h1
  rw [if_pos (by omega)] at h2
  by_cases c : 0 ≤ a1.toInt ∧ a1.toInt < (gi σ 1 1).toInt
  · have ec := cl_eq c.1
    obtain ⟨μ, κ, hg, hκ, hμ, hk, k1, k2, k3, k4⟩ := hR a1.toNatClampNeg (by omega)
    rw [if_pos c, fm_mk hg hk, N_isOfKind hk hκ (by omega) (by omega), fb_mk, ite_10, fm_mk hg hk] at h1
    have es : σ1 = σ := by
      split at h1
      · exact (Prod.mk.inj h1).2.symm
      · exact (Prod.mk.inj h1).2.symm
    subst es
    rw [F_misMower h0, fb_mk, ite_10, ← hc, if_pos c, fl_mk] at h2
    have ek : gi σ1 μ 0 = gi σ1 103 a1.toNatClampNeg := i_eq (by omega)
    have z1 : (1 : Int32).toInt = 1 := rfl
    have z2 : (2 : Int32).toInt = 2 := rfl
    have z3 : (3 : Int32).toInt = 3 := rfl
    have z4 : (4 : Int32).toInt = 4 := rfl
    have z5 : (5 : Int32).toInt = 5 := rfl
    have l5 : ∀ y z, LF_X12_taken 9 0 y z σ1 = LB_X12_taken_51 (LF_X12_taken 8) y z σ1 := fun y z => rfl
    have l6 : ∀ y z, LF_X12_taken 8 1 y z σ1 = LB_X12_taken_61 (LF_X12_taken 7) y z σ1 := fun y z => rfl
    rw [l5] at h2
    unfold LB_X12_taken_51 at h2
    rw [l6] at h2
    unfold LB_X12_taken_61 at h2
    rw [ek] at h1
    simp only [← Int32.toInt_inj] at h2
    by_cases d : a2.toInt = 0 ∨ a2.toInt = (κ : Int) ∨ (a2.toInt = 1 ∧ κ = 4) ∨ (a2.toInt = 2 ∧ κ = 5) ∨ (a2.toInt = 3 ∧ κ = 6)
    · rw [if_pos d] at h1
      rw [← (Prod.mk.inj h1).1]
      (repeat' split at h2) <;> first | exact (Prod.mk.inj h2).1 | (exfalso; omega)
    · rw [if_neg d] at h1
      rw [← (Prod.mk.inj h1).1]
      (repeat' split at h2) <;> first | exact (Prod.mk.inj h2).1 | (exfalso; omega)
  · rw [if_neg c] at h1
    obtain ⟨rfl, rfl⟩ := Prod.mk.inj h1
    rw [F_misMower h0, fb_mk, ite_10, ← hc, if_neg c] at h2
    exact (Prod.mk.inj h2).1
/-- the told ones' rows -/
noncomputable def RT (σ : Sg) (c cn m : Nat) : Prop := (∀ k : Nat, k < 24 → gi σ c k = gi σ m k) ∧ ∀ k : Nat, k < 24 → 4 * (gi σ cn 1).toInt ≤ (k : Int) → gi σ c k = 0
theorem TLD_row {a1 a2 a3 r1 r2 : Int32} {σ σ1 σ2 : Sg} (hc : (gi σ 1 1).toInt = (gi σ 74 0).toInt) (h0 : 0 ≤ (gi σ 74 0).toInt) (h6 : (gi σ 74 0).toInt ≤ 6) (hR : RK σ 2 1 103 104) (q : RT σ 8 1 109) (h1 : F_X11_row a1 a2 a3 σ = (r1, σ1)) (h2 : F_X12_row a1 a2 a3 σ1 = (r2, σ2)) : RT σ2 8 1 109 ∧ r1 = r2 := by
  have z0 : (0 : Int32).toInt = 0 := rfl
  have z3 : (3 : Int32).toInt = 3 := rfl
  have z9 : (9 : Int32).toInt = 9 := rfl
  unfold F_X11_row at h1
  unfold F_X12_row at h2
  rw [F_isMower, fb_mk, ite_10] at h1
  by_cases c : 0 ≤ a1.toInt ∧ a1.toInt < (gi σ 1 1).toInt
  · have ec := cl_eq c.1
    obtain ⟨μ, κ, hg, hκ, hμ, hk, k1, k2, k3, k4⟩ := hR a1.toNatClampNeg (by omega)
    rw [if_pos c, fm_mk hg hk, fl_mk] at h1
    have hm : (msub (cls κ) 10 = true ↔ κ = 6) := by
      have h : κ = 0 ∨ κ = 1 ∨ κ = 2 ∨ κ = 3 ∨ κ = 4 ∨ κ = 5 ∨ κ = 6 := by omega
      rcases h with rfl | rfl | rfl | rfl | rfl | rfl | rfl <;> decide
    by_cases c2 : 0 ≤ a2.toInt ∧ a2.toInt ≤ 3
    · by_cases c3 : 0 ≤ a3.toInt ∧ a3.toInt ≤ 9
      · rw [if_neg (i_nlt0 c2.1), if_pos (i_le (b := (3 : Int32)) c2.2), if_neg (i_nlt0 c3.1), if_pos (i_le (b := (9 : Int32)) c3.2)] at h1
        have i1 : ((4 : Int32) * a1).toInt = 4 * a1.toInt := i_mull rfl (by omega) (by omega)
        have i2 : (((4 : Int32) * a1) + a2).toInt = ((4 : Int32) * a1).toInt + a2.toInt := i_add (by show (_ : Int) ≤ ((4 : Int32) * a1).toInt + a2.toInt; omega) (by show ((4 : Int32) * a1).toInt + a2.toInt ≤ (_ : Int); omega)
        have i3 := cl_eq (x := ((4 : Int32) * a1) + a2) (by omega)
        by_cases c4 : κ = 6
        · rw [if_pos (hm.mpr c4), if_neg (by decide), fl_mk, fl_mk] at h1
          obtain ⟨rfl, rfl⟩ := Prod.mk.inj h1
          rw [F_misMower (by rw [gi_si_ne (Or.inl (by decide))]; exact h0), fb_mk, ite_10, gi_si_ne (Or.inl (by decide)), ← hc, if_pos c, F_in, fb_mk, ite_10, if_pos (by omega), F_in, fb_mk, ite_10, if_pos (by omega), gi_si_ne (Or.inl (by decide)), if_pos (i_eq (b := (6 : Int32)) (by rw [k1, c4]; rfl)), fl_mk, fl_mk, gi_si_ne (Or.inl (by decide))] at h2
          obtain ⟨rfl, rfl⟩ := Prod.mk.inj h2
          refine ⟨⟨fun k hk => ?_, fun k hk h8 => ?_⟩, q.1 _ (by omega)⟩
          · rw [gi_si_ne (Or.inl (by decide)), gi_si, gi_si]
            by_cases e : k = (((4 : Int32) * a1) + a2).toNatClampNeg
            · rw [if_pos ⟨rfl, e⟩, if_pos ⟨rfl, e⟩]
            · rw [if_neg (fun z => e z.2), if_neg (fun z => e z.2), gi_si_ne (Or.inl (by decide))]; exact q.1 k hk
          · rw [gi_si_ne (Or.inl (by decide)), gi_si_ne (Or.inl (by decide))] at h8
            rw [gi_si_ne (Or.inl (by decide)), gi_si_ne (Or.inr (by omega))]
            exact q.2 k hk h8
        · rw [if_neg (fun h => c4 (hm.mp h)), if_pos rfl] at h1
          obtain ⟨rfl, rfl⟩ := Prod.mk.inj h1
          rw [F_misMower h0, fb_mk, ite_10, ← hc, if_pos c, F_in, fb_mk, ite_10, if_pos (by omega), F_in, fb_mk, ite_10, if_pos (by omega), if_neg (i_ne (b := (6 : Int32)) (by rw [k1]; show ¬ (κ : Int) = 6; omega))] at h2
          obtain ⟨rfl, rfl⟩ := Prod.mk.inj h2
          exact ⟨q, rfl⟩
      · rw [if_neg (i_nlt0 c2.1), if_pos (i_le (b := (3 : Int32)) c2.2)] at h1
        have h1 : ((-2 : Int32), σ) = (r1, σ1) := by
          by_cases d : a3.toInt < 0
          · rw [if_pos (i_lt0 d)] at h1; exact h1
          · rw [if_neg (i_nlt0 (by omega)), if_neg (i_nle (b := (9 : Int32)) (by show (9 : Int) < a3.toInt; omega))] at h1; exact h1
        obtain ⟨rfl, rfl⟩ := Prod.mk.inj h1
        rw [F_misMower h0, fb_mk, ite_10, ← hc, if_pos c, F_in, fb_mk, ite_10, if_pos (by omega), F_in, fb_mk, ite_10, if_neg (by omega)] at h2
        obtain ⟨rfl, rfl⟩ := Prod.mk.inj h2
        exact ⟨q, rfl⟩
    · have h1 : ((-1 : Int32), σ) = (r1, σ1) := by
        by_cases d : a2.toInt < 0
        · rw [if_pos (i_lt0 d)] at h1; exact h1
        · rw [if_neg (i_nlt0 (by omega)), if_neg (i_nle (b := (3 : Int32)) (by show (3 : Int) < a2.toInt; omega))] at h1; exact h1
      obtain ⟨rfl, rfl⟩ := Prod.mk.inj h1
      rw [F_misMower h0, fb_mk, ite_10, ← hc, if_pos c, F_in, fb_mk, ite_10, if_neg (by omega)] at h2
      obtain ⟨rfl, rfl⟩ := Prod.mk.inj h2
      exact ⟨q, rfl⟩
  · rw [if_neg c] at h1
    obtain ⟨rfl, rfl⟩ := Prod.mk.inj h1
    rw [F_misMower h0, fb_mk, ite_10, ← hc, if_neg c] at h2
    obtain ⟨rfl, rfl⟩ := Prod.mk.inj h2
    exact ⟨q, rfl⟩
