/-! numbers -/
noncomputable def hid (P : Prop) : Prop := P
theorem un {P : Prop} (h : hid P) : P := h
theorem bm_eq {z : Int} (h1 : -2147483648 ≤ z) (h2 : z ≤ 2147483647) : z.bmod (2 ^ 32) = z := by
  show (if z % 4294967296 < (4294967296 + 1) / 2 then z % 4294967296 else z % 4294967296 - 4294967296) = z
  split <;> omega
theorem i_add {x y : Int32} (h1 : -2147483648 ≤ x.toInt + y.toInt) (h2 : x.toInt + y.toInt ≤ 2147483647) : (x + y).toInt = x.toInt + y.toInt := by
  rw [Int32.toInt_add]
  exact bm_eq h1 h2
theorem i_sub {x y : Int32} (h1 : -2147483648 ≤ x.toInt - y.toInt) (h2 : x.toInt - y.toInt ≤ 2147483647) : (x - y).toInt = x.toInt - y.toInt := by
  rw [Int32.toInt_sub]
  exact bm_eq h1 h2
theorem i_mul0 {x y : Int32} {z : Int} (e : x.toInt * y.toInt = z) (h1 : -2147483648 ≤ z) (h2 : z ≤ 2147483647) : (x * y).toInt = z := by
  rw [Int32.toInt_mul, e]
  exact bm_eq h1 h2
theorem i_mull {c : Int32} {y : Int32} {k : Int} (hk : c.toInt = k) (h1 : -2147483648 ≤ k * y.toInt) (h2 : k * y.toInt ≤ 2147483647) : (c * y).toInt = k * y.toInt := i_mul0 (by rw [hk]) h1 h2
theorem i_mulr {c : Int32} {y : Int32} {k : Int} (hk : c.toInt = k) (h1 : -2147483648 ≤ y.toInt * k) (h2 : y.toInt * k ≤ 2147483647) : (y * c).toInt = y.toInt * k := i_mul0 (by rw [hk]) h1 h2
theorem i_div {x c : Int32} {k : Int} (h0 : 0 ≤ x.toInt) (hk0 : 0 < k) (hk : c.toInt = k) : (x / c).toInt = x.toInt / k := by
  have h2 := Int32.toInt_lt x
  rw [Int32.toInt_div, hk, Int.tdiv_eq_ediv_of_nonneg h0]
  have h3 : x.toInt / k ≤ x.toInt := Int.ediv_le_self _ h0
  have h4 : 0 ≤ x.toInt / k := Int.ediv_nonneg h0 (by omega)
  exact bm_eq (by omega) (by omega)
theorem i_rem {x c : Int32} {k : Int} (h0 : 0 ≤ x.toInt) (hk0 : 0 < k) (hk : c.toInt = k) : (x - x / c * c).toInt = x.toInt % k := by
  have h2 := Int32.toInt_lt x
  have hd := i_div h0 hk0 hk
  have h3 : x.toInt / k * k ≤ x.toInt := Int.ediv_mul_le _ (by omega)
  have h4 : 0 ≤ x.toInt / k := Int.ediv_nonneg h0 (by omega)
  have h5 : 0 ≤ x.toInt / k * k := Int.mul_nonneg h4 (by omega)
  have hm : (x / c * c).toInt = x.toInt / k * k := i_mul0 (by rw [hd, hk]) (by omega) (by omega)
  rw [i_sub (by omega) (by omega), hm]
  have := Int.emod_add_mul_ediv x.toInt k
  have e : k * (x.toInt / k) = x.toInt / k * k := Int.mul_comm _ _
  omega
theorem i_bool {x : Int32} (h1 : 0 ≤ x.toInt) (h2 : x.toInt ≤ 1) : narrow .boolean (.int x) = .int x := by
  have h : x = 0 ∨ x = 1 := by
    rcases (show x.toInt = 0 ∨ x.toInt = 1 by omega) with h | h
    · exact Or.inl (Int32.toInt_inj.mp h)
    · exact Or.inr (Int32.toInt_inj.mp h)
  rcases h with rfl | rfl <;> decide
theorem vp_lt {i : Int32} {n : Nat} (h : vp_in i n) : i.toNatClampNeg < n := Nat.not_le.mp fun q => h (Or.inr q)
theorem nar_z (x : Int32) : 0 ≤ (vp_nar .boolean x).toInt ∧ (vp_nar .boolean x).toInt ≤ 1 := by
  have h : vp_nar .boolean x = 0 ∨ vp_nar .boolean x = 1 := by
    have e : vp_nar .boolean x = x &&& 1 := rfl
    rw [e]
    obtain ⟨j, hj, h⟩ := pk_andE x (m := 1) 1 rfl
    rw [h]
    rcases (show j = 0 ∨ j = 1 by omega) with rfl | rfl
    · exact Or.inl rfl
    · exact Or.inr rfl
  rcases h with h | h <;> rw [h] <;> decide
/-! what is left alone -/
theorem gi_si_eq {σ : Sg} {a k : Nat} {v : Int32} : gi (si σ a k v) a k = v := by simp [gi, si, sia, va_up, upd]
theorem gi_si_ne {σ : Sg} {a k b j : Nat} {v : Int32} (h : b ≠ a ∨ j ≠ k) : gi (si σ a k v) b j = gi σ b j := by
  rcases h with h | h
  · simp [gi, si, sia, va_up, h]
  · by_cases hb : b = a
    · subst hb; simp [gi, si, sia, va_up, upd, h]
    · simp [gi, si, sia, va_up, hb]
theorem gk_l {σ σ' : Sg} {a k b j : Nat} {v : Int32} (e : σ' = si σ b j v) (h : Nat.beq a b = false) : (gi σ' a k).toInt = (gi σ a k).toInt := by rw [e]; exact congrArg Int32.toInt (gi_si_ne (Or.inl (Nat.ne_of_beq_eq_false h)))
theorem gk_r {σ σ' : Sg} {a k b j : Nat} {v : Int32} (e : σ' = si σ b j v) (h : Nat.beq k j = false) : (gi σ' a k).toInt = (gi σ a k).toInt := by rw [e]; exact congrArg Int32.toInt (gi_si_ne (Or.inr (Nat.ne_of_beq_eq_false h)))
theorem gi_si {σ : Sg} {a k b j : Nat} {v : Int32} : gi (si σ a k v) b j = if b = a ∧ j = k then v else gi σ b j := by
  by_cases e : b = a ∧ j = k
  · rw [if_pos e]; obtain ⟨rfl, rfl⟩ := e; exact gi_si_eq
  · rw [if_neg e]
    refine gi_si_ne ?_
    by_cases hb : b = a
    · exact Or.inr (fun hj => e ⟨hb, hj⟩)
    · exact Or.inl hb
noncomputable def Fr (S F : List Nat) (σ σ' : Sg) : Prop := (∀ id, id ∉ S → σ'.1 id = σ.1 id ∧ σ'.2.1 id = σ.2.1 id) ∧ (∀ k, k ∉ F → gi σ' 74 k = gi σ 74 k) ∧ σ'.2.2 = σ.2.2
theorem Fr_rf {S F : List Nat} {σ : Sg} : Fr S F σ σ := ⟨fun _ _ => ⟨rfl, rfl⟩, fun _ _ => rfl, rfl⟩
theorem Fr_si {S F : List Nat} {σ σ1 : Sg} {a k : Nat} {v : Int32} (h : Fr S F σ σ1) (ha : a ∈ S) (hk : a = 74 → k ∈ F) : Fr S F σ (si σ1 a k v) := by
  refine ⟨fun id hid => ?_, fun j hj => ?_, h.2.2⟩
  · have hne : id ≠ a := fun e => hid (e ▸ ha)
    have h1 := h.1 id hid
    exact ⟨(va_up_ne _ _ hne).trans h1.1, h1.2⟩
  · rw [← h.2.1 j hj]
    by_cases e : 74 = a
    · subst e
      have hjk : j ≠ k := fun e => hj (e ▸ hk rfl)
      exact gi_si_ne (Or.inr hjk)
    · exact gi_si_ne (Or.inl e)
theorem Fr_sl {S F : List Nat} {σ σ1 : Sg} {a k : Nat} {v : Int64} (h : Fr S F σ σ1) (ha : a ∈ S) : Fr S F σ (sl σ1 a k v) := by
  refine ⟨fun id hid => ?_, h.2.1, h.2.2⟩
  have hne : id ≠ a := fun e => hid (e ▸ ha)
  have h1 := h.1 id hid
  exact ⟨h1.1, (va_up_ne _ _ hne).trans h1.2⟩
theorem Fr_tr {S F S2 F2 : List Nat} {σ σ1 σ2 : Sg} (h : Fr S F σ σ1) (h2 : Fr S2 F2 σ1 σ2) (hS : ∀ x ∈ S2, x ∈ S) (hF : ∀ x ∈ F2, x ∈ F) : Fr S F σ σ2 := by
  refine ⟨fun id hid => ?_, fun j hj => ?_, h2.2.2.trans h.2.2⟩
  · have h1 := h.1 id hid
    have h3 := h2.1 id (fun q => hid (hS id q))
    exact ⟨h3.1.trans h1.1, h3.2.trans h1.2⟩
  · exact (h2.2.1 j (fun q => hj (hF j q))).trans (h.2.1 j hj)
theorem Fr_nil {σ σ' : Sg} (h : Fr [] [] σ σ') : σ = σ' := by
  obtain ⟨h1, -, h3⟩ := h
  refine Prod.ext (funext fun id => ((h1 id (by simp)).1).symm) (Prod.ext (funext fun id => ((h1 id (by simp)).2).symm) h3.symm)
/-! the model's bounds -/
noncomputable def bnd (f : Nat → Int32) (n : Nat) (lo hi : Int) : Prop := ∀ j, j < n → lo ≤ (f j).toInt ∧ (f j).toInt ≤ hi
noncomputable def MI0 (σ : Sg) : Prop := ((0 : Int) ≤ (gi σ 74 0).toInt ∧ (gi σ 74 0).toInt ≤ 6) ∧ ((0 : Int) ≤ (gi σ 74 1).toInt ∧ (gi σ 74 1).toInt ≤ 20000) ∧ ((0 : Int) ≤ (gi σ 74 2).toInt ∧ (gi σ 74 2).toInt ≤ 6) ∧ ((0 : Int) ≤ (gi σ 74 11).toInt ∧ (gi σ 74 11).toInt ≤ 6) ∧ ((-1 : Int) ≤ (gi σ 74 12).toInt ∧ (gi σ 74 12).toInt ≤ 5) ∧ ((0 : Int) ≤ (gi σ 74 13).toInt ∧ (gi σ 74 13).toInt ≤ 100) ∧ ((0 : Int) ≤ (gi σ 74 14).toInt ∧ (gi σ 74 14).toInt ≤ 100) ∧ ((0 : Int) ≤ (gi σ 74 15).toInt ∧ (gi σ 74 15).toInt ≤ 99) ∧ ((0 : Int) ≤ (gi σ 74 24).toInt ∧ (gi σ 74 24).toInt ≤ 600) ∧ ((0 : Int) ≤ (gi σ 74 25).toInt ∧ (gi σ 74 25).toInt ≤ 101) ∧ ((-100 : Int) ≤ (gi σ 74 30).toInt ∧ (gi σ 74 30).toInt ≤ 100) ∧ ((0 : Int) ≤ (gi σ 74 33).toInt ∧ (gi σ 74 33).toInt ≤ 20000) ∧ ((0 : Int) ≤ (gi σ 74 41).toInt ∧ (gi σ 74 41).toInt ≤ 6) ∧ ((0 : Int) ≤ (gi σ 74 45).toInt ∧ (gi σ 74 45).toInt ≤ 10) ∧ ((0 : Int) ≤ (gi σ 74 46).toInt ∧ (gi σ 74 46).toInt ≤ 8) ∧ ((-1 : Int) ≤ (gi σ 74 50).toInt ∧ (gi σ 74 50).toInt ≤ 5) ∧ ((0 : Int) ≤ (gi σ 74 51).toInt ∧ (gi σ 74 51).toInt ≤ 6) ∧ ((0 : Int) ≤ (gi σ 74 52).toInt ∧ (gi σ 74 52).toInt ≤ 20000) ∧ ((0 : Int) ≤ (gi σ 74 53).toInt ∧ (gi σ 74 53).toInt ≤ 6) ∧ ((0 : Int) ≤ (gi σ 74 54).toInt ∧ (gi σ 74 54).toInt ≤ 10) ∧ ((0 : Int) ≤ (gi σ 74 55).toInt ∧ (gi σ 74 55).toInt ≤ 8) ∧ ((0 : Int) ≤ (gi σ 74 69).toInt ∧ (gi σ 74 69).toInt ≤ 1000)
noncomputable def MI1 (σ : Sg) : Prop := bnd (σ.1 105) 6 (0) 9999 ∧ bnd (σ.1 110) 6 (0) 5 ∧ bnd (σ.1 116) 100 (0) 127 ∧ bnd (σ.1 117) 6 (0) 10 ∧ bnd (σ.1 127) 19 (0) 127 ∧ bnd (σ.1 129) 100 (0) 1 ∧ bnd (σ.1 134) 6 (0) 9999 ∧ bnd (σ.1 138) 6 (0) 5 ∧ bnd (σ.1 139) 6 (0) 5 ∧ bnd (σ.1 142) 6 (0) 5 ∧ bnd (σ.1 143) 6 (0) 30 ∧ bnd (σ.1 158) 6 (0) 9999 ∧ bnd (σ.1 162) 6 (0) 5 ∧ bnd (σ.1 164) 6 (0) 5 ∧ bnd (σ.1 165) 6 (0) 30 ∧ bnd (σ.1 171) 6 (-1) 4 ∧ bnd (σ.1 172) 6 (0) 60
/-- a clause's signs: how high the pile stands ahead of each, never too low -/
noncomputable def okSeg (σ : Sg) (lo hi : Nat) : Prop := ∃ H : Nat → Nat, H lo = 0 ∧ ∀ k, lo ≤ k → k < hi → (gi σ 122 k = -33 → 1 ≤ H k ∧ H (k + 1) = H k) ∧ (¬ gi σ 122 k = -33 → (gi σ 122 k).toInt < 0 → 2 ≤ H k ∧ H (k + 1) + 1 = H k) ∧ (0 ≤ (gi σ 122 k).toInt → H k ≤ 99 ∧ H (k + 1) = H k + 1)
noncomputable def okCl (σ : Sg) (f c : Nat) : Prop := ∃ lo hi : Nat, (gi σ 120 c).toInt = lo ∧ (gi σ 121 c).toInt = hi ∧ 100 * f ≤ lo ∧ lo ≤ hi ∧ hi ≤ 100 * f + 100 ∧ okSeg σ lo hi
noncomputable def okF (σ : Sg) (f : Nat) : Prop := ∀ n : Nat, n < 10 → (n : Int) < (gi σ 117 f).toInt → (gi σ 118 (10 * f + n)).toInt ≤ 1 → okCl σ f (10 * f + n)
/-- every field that may come to hold is one -/
noncomputable def FV (σ : Sg) : Prop := ∀ f : Nat, f < 6 → ((f : Int) < (gi σ 74 11).toInt ∨ (f : Int) = (gi σ 74 12).toInt ∨ (f : Int) = (gi σ 74 50).toInt) → okF σ f
theorem okF_si {σ : Sg} {a k : Nat} {v : Int32} {f : Nat} (ha : a = 74) (h : okF σ f) : okF (si σ a k v) f := by
  subst ha
  intro n hn hcl hw
  rw [gi_si_ne (Or.inl (by decide +kernel))] at hcl
  rw [gi_si_ne (Or.inl (by decide +kernel))] at hw
  obtain ⟨lo, hi, e1, e2, e3, e4, e5, H, h0, hk⟩ := h n hn hcl hw
  exact ⟨lo, hi, by rw [gi_si_ne (Or.inl (by decide +kernel))]; exact e1, by rw [gi_si_ne (Or.inl (by decide +kernel))]; exact e2, e3, e4, e5, H, h0, fun k h1 h2 => by rw [gi_si_ne (Or.inl (by decide +kernel))]; exact hk k h1 h2⟩
theorem FV_copy {σ : Sg} (h : FV σ) {k : Nat} {v : Int32} (hk : k = 12 ∨ k = 50) (hv : v = gi σ 74 12 ∨ v = gi σ 74 50) : FV (si σ 74 k v) := by
  intro f hf hc
  refine okF_si rfl (h f hf ?_)
  rw [gi_si_ne (Or.inr (by omega))] at hc
  rcases hc with hc | hc | hc
  · exact Or.inl hc
  · rw [gi_si] at hc
    split at hc
    · rcases hv with hv | hv <;> rw [hv] at hc
      · exact Or.inr (Or.inl hc)
      · exact Or.inr (Or.inr hc)
    · exact Or.inr (Or.inl hc)
  · rw [gi_si] at hc
    split at hc
    · rcases hv with hv | hv <;> rw [hv] at hc
      · exact Or.inr (Or.inl hc)
      · exact Or.inr (Or.inr hc)
    · exact Or.inr (Or.inr hc)
noncomputable def fvL : List Nat := [117, 118, 120, 121, 122]
theorem okSeg_eq {σ σ' : Sg} {lo hi : Nat} (h : ∀ k, lo ≤ k → k < hi → gi σ' 122 k = gi σ 122 k) (q : okSeg σ lo hi) : okSeg σ' lo hi := by
  obtain ⟨H, h0, hk⟩ := q
  exact ⟨H, h0, fun k h1 h2 => by rw [h k h1 h2]; exact hk k h1 h2⟩
theorem FV_eq {σ σ' : Sg} (h : ∀ a ∈ fvL, ∀ k, gi σ' a k = gi σ a k) (h1 : gi σ' 74 11 = gi σ 74 11) (h2 : gi σ' 74 12 = gi σ 74 12) (h3 : gi σ' 74 50 = gi σ 74 50) (q : FV σ) : FV σ' := by
  intro f hf hc
  rw [h1, h2, h3] at hc
  intro n hn hcl hw
  rw [h 117 (by decide +kernel)] at hcl
  rw [h 118 (by decide +kernel)] at hw
  obtain ⟨lo, hi, e1, e2, e3, e4, e5, e6⟩ := q f hf hc n hn hcl hw
  exact ⟨lo, hi, by rw [h 120 (by decide +kernel)]; exact e1, by rw [h 121 (by decide +kernel)]; exact e2, e3, e4, e5, okSeg_eq (fun k _ _ => h 122 (by decide +kernel) k) e6⟩
theorem FV_si {σ : Sg} {a k : Nat} {v : Int32} (ha : fvL.contains a = false) (hk : a = 74 → k ≠ 11 ∧ k ≠ 12 ∧ k ≠ 50) (q : FV σ) : FV (si σ a k v) := by
  refine FV_eq (fun b hb j => gi_si_ne (Or.inl fun e => ?_)) ?_ ?_ ?_ q
  · subst e
    rw [List.contains_iff_mem.mpr hb] at ha
    cases ha
  all_goals
    by_cases e : a = 74
    · have := hk e
      exact gi_si_ne (Or.inr (by omega))
    · exact gi_si_ne (Or.inl fun q => e q.symm)

noncomputable def MI (σ : Sg) : Prop := MI0 σ ∧ MI1 σ ∧ FV σ
noncomputable def mfL : List Nat := [0, 1, 2, 11, 12, 13, 14, 15, 24, 25, 30, 33, 41, 45, 46, 50, 51, 52, 53, 54, 55, 69]
noncomputable def maL : List Nat := [105, 110, 116, 117, 127, 129, 134, 138, 139, 142, 143, 158, 162, 164, 165, 171, 172]
theorem MI_f0 {σ : Sg} (h : MI σ) : 0 ≤ (gi σ 74 0).toInt ∧ (gi σ 74 0).toInt ≤ 6 := h.1.1
theorem MI_f1 {σ : Sg} (h : MI σ) : 0 ≤ (gi σ 74 1).toInt ∧ (gi σ 74 1).toInt ≤ 20000 := h.1.2.1
theorem MI_f2 {σ : Sg} (h : MI σ) : 0 ≤ (gi σ 74 2).toInt ∧ (gi σ 74 2).toInt ≤ 6 := h.1.2.2.1
theorem MI_f11 {σ : Sg} (h : MI σ) : 0 ≤ (gi σ 74 11).toInt ∧ (gi σ 74 11).toInt ≤ 6 := h.1.2.2.2.1
theorem MI_f12 {σ : Sg} (h : MI σ) : -1 ≤ (gi σ 74 12).toInt ∧ (gi σ 74 12).toInt ≤ 5 := h.1.2.2.2.2.1
theorem MI_f13 {σ : Sg} (h : MI σ) : 0 ≤ (gi σ 74 13).toInt ∧ (gi σ 74 13).toInt ≤ 100 := h.1.2.2.2.2.2.1
theorem MI_f14 {σ : Sg} (h : MI σ) : 0 ≤ (gi σ 74 14).toInt ∧ (gi σ 74 14).toInt ≤ 100 := h.1.2.2.2.2.2.2.1
theorem MI_f15 {σ : Sg} (h : MI σ) : 0 ≤ (gi σ 74 15).toInt ∧ (gi σ 74 15).toInt ≤ 99 := h.1.2.2.2.2.2.2.2.1
theorem MI_f24 {σ : Sg} (h : MI σ) : 0 ≤ (gi σ 74 24).toInt ∧ (gi σ 74 24).toInt ≤ 600 := h.1.2.2.2.2.2.2.2.2.1
theorem MI_f25 {σ : Sg} (h : MI σ) : 0 ≤ (gi σ 74 25).toInt ∧ (gi σ 74 25).toInt ≤ 101 := h.1.2.2.2.2.2.2.2.2.2.1
theorem MI_f33 {σ : Sg} (h : MI σ) : 0 ≤ (gi σ 74 33).toInt ∧ (gi σ 74 33).toInt ≤ 20000 := h.1.2.2.2.2.2.2.2.2.2.2.2.1
theorem MI_f41 {σ : Sg} (h : MI σ) : 0 ≤ (gi σ 74 41).toInt ∧ (gi σ 74 41).toInt ≤ 6 := h.1.2.2.2.2.2.2.2.2.2.2.2.2.1
theorem MI_f45 {σ : Sg} (h : MI σ) : 0 ≤ (gi σ 74 45).toInt ∧ (gi σ 74 45).toInt ≤ 10 := h.1.2.2.2.2.2.2.2.2.2.2.2.2.2.1
theorem MI_f46 {σ : Sg} (h : MI σ) : 0 ≤ (gi σ 74 46).toInt ∧ (gi σ 74 46).toInt ≤ 8 := h.1.2.2.2.2.2.2.2.2.2.2.2.2.2.2.1
theorem MI_f50 {σ : Sg} (h : MI σ) : -1 ≤ (gi σ 74 50).toInt ∧ (gi σ 74 50).toInt ≤ 5 := h.1.2.2.2.2.2.2.2.2.2.2.2.2.2.2.2.1
theorem MI_f51 {σ : Sg} (h : MI σ) : 0 ≤ (gi σ 74 51).toInt ∧ (gi σ 74 51).toInt ≤ 6 := h.1.2.2.2.2.2.2.2.2.2.2.2.2.2.2.2.2.1
theorem MI_f52 {σ : Sg} (h : MI σ) : 0 ≤ (gi σ 74 52).toInt ∧ (gi σ 74 52).toInt ≤ 20000 := h.1.2.2.2.2.2.2.2.2.2.2.2.2.2.2.2.2.2.1
theorem MI_f53 {σ : Sg} (h : MI σ) : 0 ≤ (gi σ 74 53).toInt ∧ (gi σ 74 53).toInt ≤ 6 := h.1.2.2.2.2.2.2.2.2.2.2.2.2.2.2.2.2.2.2.1
theorem MI_f54 {σ : Sg} (h : MI σ) : 0 ≤ (gi σ 74 54).toInt ∧ (gi σ 74 54).toInt ≤ 10 := h.1.2.2.2.2.2.2.2.2.2.2.2.2.2.2.2.2.2.2.2.1
theorem MI_f55 {σ : Sg} (h : MI σ) : 0 ≤ (gi σ 74 55).toInt ∧ (gi σ 74 55).toInt ≤ 8 := h.1.2.2.2.2.2.2.2.2.2.2.2.2.2.2.2.2.2.2.2.2.1
theorem MI_f69 {σ : Sg} (h : MI σ) : 0 ≤ (gi σ 74 69).toInt ∧ (gi σ 74 69).toInt ≤ 1000 := h.1.2.2.2.2.2.2.2.2.2.2.2.2.2.2.2.2.2.2.2.2.2
theorem MI_a105 {σ : Sg} (h : MI σ) {i : Int32} (hi : vp_in i 6) : 0 ≤ (gi σ 105 i.toNatClampNeg).toInt ∧ (gi σ 105 i.toNatClampNeg).toInt ≤ 9999 := h.2.1.1 _ (vp_lt hi)
theorem MI_a110 {σ : Sg} (h : MI σ) {i : Int32} (hi : vp_in i 6) : 0 ≤ (gi σ 110 i.toNatClampNeg).toInt ∧ (gi σ 110 i.toNatClampNeg).toInt ≤ 5 := h.2.1.2.1 _ (vp_lt hi)
theorem MI_a116 {σ : Sg} (h : MI σ) {i : Int32} (hi : vp_in i 100) : 0 ≤ (gi σ 116 i.toNatClampNeg).toInt ∧ (gi σ 116 i.toNatClampNeg).toInt ≤ 127 := h.2.1.2.2.1 _ (vp_lt hi)
theorem MI_a117 {σ : Sg} (h : MI σ) {i : Int32} (hi : vp_in i 6) : 0 ≤ (gi σ 117 i.toNatClampNeg).toInt ∧ (gi σ 117 i.toNatClampNeg).toInt ≤ 10 := h.2.1.2.2.2.1 _ (vp_lt hi)
theorem MI_a127 {σ : Sg} (h : MI σ) {i : Int32} (hi : vp_in i 19) : 0 ≤ (gi σ 127 i.toNatClampNeg).toInt ∧ (gi σ 127 i.toNatClampNeg).toInt ≤ 127 := h.2.1.2.2.2.2.1 _ (vp_lt hi)
theorem MI_a129 {σ : Sg} (h : MI σ) {i : Int32} (hi : vp_in i 100) : 0 ≤ (gi σ 129 i.toNatClampNeg).toInt ∧ (gi σ 129 i.toNatClampNeg).toInt ≤ 1 := h.2.1.2.2.2.2.2.1 _ (vp_lt hi)
theorem MI_a134 {σ : Sg} (h : MI σ) {i : Int32} (hi : vp_in i 6) : 0 ≤ (gi σ 134 i.toNatClampNeg).toInt ∧ (gi σ 134 i.toNatClampNeg).toInt ≤ 9999 := h.2.1.2.2.2.2.2.2.1 _ (vp_lt hi)
theorem MI_a138 {σ : Sg} (h : MI σ) {i : Int32} (hi : vp_in i 6) : 0 ≤ (gi σ 138 i.toNatClampNeg).toInt ∧ (gi σ 138 i.toNatClampNeg).toInt ≤ 5 := h.2.1.2.2.2.2.2.2.2.1 _ (vp_lt hi)
theorem MI_a139 {σ : Sg} (h : MI σ) {i : Int32} (hi : vp_in i 6) : 0 ≤ (gi σ 139 i.toNatClampNeg).toInt ∧ (gi σ 139 i.toNatClampNeg).toInt ≤ 5 := h.2.1.2.2.2.2.2.2.2.2.1 _ (vp_lt hi)
theorem MI_a142 {σ : Sg} (h : MI σ) {i : Int32} (hi : vp_in i 6) : 0 ≤ (gi σ 142 i.toNatClampNeg).toInt ∧ (gi σ 142 i.toNatClampNeg).toInt ≤ 5 := h.2.1.2.2.2.2.2.2.2.2.2.1 _ (vp_lt hi)
theorem MI_a143 {σ : Sg} (h : MI σ) {i : Int32} (hi : vp_in i 6) : 0 ≤ (gi σ 143 i.toNatClampNeg).toInt ∧ (gi σ 143 i.toNatClampNeg).toInt ≤ 30 := h.2.1.2.2.2.2.2.2.2.2.2.2.1 _ (vp_lt hi)
theorem MI_a158 {σ : Sg} (h : MI σ) {i : Int32} (hi : vp_in i 6) : 0 ≤ (gi σ 158 i.toNatClampNeg).toInt ∧ (gi σ 158 i.toNatClampNeg).toInt ≤ 9999 := h.2.1.2.2.2.2.2.2.2.2.2.2.2.1 _ (vp_lt hi)
theorem MI_a162 {σ : Sg} (h : MI σ) {i : Int32} (hi : vp_in i 6) : 0 ≤ (gi σ 162 i.toNatClampNeg).toInt ∧ (gi σ 162 i.toNatClampNeg).toInt ≤ 5 := h.2.1.2.2.2.2.2.2.2.2.2.2.2.2.1 _ (vp_lt hi)
theorem MI_a164 {σ : Sg} (h : MI σ) {i : Int32} (hi : vp_in i 6) : 0 ≤ (gi σ 164 i.toNatClampNeg).toInt ∧ (gi σ 164 i.toNatClampNeg).toInt ≤ 5 := h.2.1.2.2.2.2.2.2.2.2.2.2.2.2.2.1 _ (vp_lt hi)
theorem MI_a165 {σ : Sg} (h : MI σ) {i : Int32} (hi : vp_in i 6) : 0 ≤ (gi σ 165 i.toNatClampNeg).toInt ∧ (gi σ 165 i.toNatClampNeg).toInt ≤ 30 := h.2.1.2.2.2.2.2.2.2.2.2.2.2.2.2.2.1 _ (vp_lt hi)
theorem MI_a171 {σ : Sg} (h : MI σ) {i : Int32} (hi : vp_in i 6) : -1 ≤ (gi σ 171 i.toNatClampNeg).toInt ∧ (gi σ 171 i.toNatClampNeg).toInt ≤ 4 := h.2.1.2.2.2.2.2.2.2.2.2.2.2.2.2.2.2.1 _ (vp_lt hi)
theorem MI_a172 {σ : Sg} (h : MI σ) {i : Int32} (hi : vp_in i 6) : 0 ≤ (gi σ 172 i.toNatClampNeg).toInt ∧ (gi σ 172 i.toNatClampNeg).toInt ≤ 60 := h.2.1.2.2.2.2.2.2.2.2.2.2.2.2.2.2.2.2 _ (vp_lt hi)
theorem MI1_f {σ : Sg} (h : MI1 σ) {k : Nat} {v : Int32} : MI1 (si σ 74 k v) := h
theorem bnd_up {f : Nat → Int32} {n k : Nat} {lo hi : Int} {v : Int32} (h : bnd f n lo hi) (h1 : lo ≤ v.toInt) (h2 : v.toInt ≤ hi) : bnd (upd f k v) n lo hi := by
  intro j hj
  unfold upd
  split
  · exact ⟨h1, h2⟩
  · exact h j hj
theorem MIs_f0 {σ : Sg} (h : MI σ) {v : Int32} (h1 : 0 ≤ v.toInt) (h2 : v.toInt ≤ 6) : MI (si σ 74 0 v) := ⟨⟨(by rw [gi_si_eq]; exact ⟨h1, h2⟩), (by rw [gi_si_ne (Or.inr (by decide +kernel))]; exact h.1.2.1), (by rw [gi_si_ne (Or.inr (by decide +kernel))]; exact h.1.2.2.1), (by rw [gi_si_ne (Or.inr (by decide +kernel))]; exact h.1.2.2.2.1), (by rw [gi_si_ne (Or.inr (by decide +kernel))]; exact h.1.2.2.2.2.1), (by rw [gi_si_ne (Or.inr (by decide +kernel))]; exact h.1.2.2.2.2.2.1), (by rw [gi_si_ne (Or.inr (by decide +kernel))]; exact h.1.2.2.2.2.2.2.1), (by rw [gi_si_ne (Or.inr (by decide +kernel))]; exact h.1.2.2.2.2.2.2.2.1), (by rw [gi_si_ne (Or.inr (by decide +kernel))]; exact h.1.2.2.2.2.2.2.2.2.1), (by rw [gi_si_ne (Or.inr (by decide +kernel))]; exact h.1.2.2.2.2.2.2.2.2.2.1), (by rw [gi_si_ne (Or.inr (by decide +kernel))]; exact h.1.2.2.2.2.2.2.2.2.2.2.1), (by rw [gi_si_ne (Or.inr (by decide +kernel))]; exact h.1.2.2.2.2.2.2.2.2.2.2.2.1), (by rw [gi_si_ne (Or.inr (by decide +kernel))]; exact h.1.2.2.2.2.2.2.2.2.2.2.2.2.1), (by rw [gi_si_ne (Or.inr (by decide +kernel))]; exact h.1.2.2.2.2.2.2.2.2.2.2.2.2.2.1), (by rw [gi_si_ne (Or.inr (by decide +kernel))]; exact h.1.2.2.2.2.2.2.2.2.2.2.2.2.2.2.1), (by rw [gi_si_ne (Or.inr (by decide +kernel))]; exact h.1.2.2.2.2.2.2.2.2.2.2.2.2.2.2.2.1), (by rw [gi_si_ne (Or.inr (by decide +kernel))]; exact h.1.2.2.2.2.2.2.2.2.2.2.2.2.2.2.2.2.1), (by rw [gi_si_ne (Or.inr (by decide +kernel))]; exact h.1.2.2.2.2.2.2.2.2.2.2.2.2.2.2.2.2.2.1), (by rw [gi_si_ne (Or.inr (by decide +kernel))]; exact h.1.2.2.2.2.2.2.2.2.2.2.2.2.2.2.2.2.2.2.1), (by rw [gi_si_ne (Or.inr (by decide +kernel))]; exact h.1.2.2.2.2.2.2.2.2.2.2.2.2.2.2.2.2.2.2.2.1), (by rw [gi_si_ne (Or.inr (by decide +kernel))]; exact h.1.2.2.2.2.2.2.2.2.2.2.2.2.2.2.2.2.2.2.2.2.1), (by rw [gi_si_ne (Or.inr (by decide +kernel))]; exact h.1.2.2.2.2.2.2.2.2.2.2.2.2.2.2.2.2.2.2.2.2.2)⟩, MI1_f h.2.1, FV_si rfl (fun _ => by decide +kernel) h.2.2⟩
theorem MIs_f1 {σ : Sg} (h : MI σ) {v : Int32} (h1 : 0 ≤ v.toInt) (h2 : v.toInt ≤ 20000) : MI (si σ 74 1 v) := ⟨⟨(by rw [gi_si_ne (Or.inr (by decide +kernel))]; exact h.1.1), (by rw [gi_si_eq]; exact ⟨h1, h2⟩), (by rw [gi_si_ne (Or.inr (by decide +kernel))]; exact h.1.2.2.1), (by rw [gi_si_ne (Or.inr (by decide +kernel))]; exact h.1.2.2.2.1), (by rw [gi_si_ne (Or.inr (by decide +kernel))]; exact h.1.2.2.2.2.1), (by rw [gi_si_ne (Or.inr (by decide +kernel))]; exact h.1.2.2.2.2.2.1), (by rw [gi_si_ne (Or.inr (by decide +kernel))]; exact h.1.2.2.2.2.2.2.1), (by rw [gi_si_ne (Or.inr (by decide +kernel))]; exact h.1.2.2.2.2.2.2.2.1), (by rw [gi_si_ne (Or.inr (by decide +kernel))]; exact h.1.2.2.2.2.2.2.2.2.1), (by rw [gi_si_ne (Or.inr (by decide +kernel))]; exact h.1.2.2.2.2.2.2.2.2.2.1), (by rw [gi_si_ne (Or.inr (by decide +kernel))]; exact h.1.2.2.2.2.2.2.2.2.2.2.1), (by rw [gi_si_ne (Or.inr (by decide +kernel))]; exact h.1.2.2.2.2.2.2.2.2.2.2.2.1), (by rw [gi_si_ne (Or.inr (by decide +kernel))]; exact h.1.2.2.2.2.2.2.2.2.2.2.2.2.1), (by rw [gi_si_ne (Or.inr (by decide +kernel))]; exact h.1.2.2.2.2.2.2.2.2.2.2.2.2.2.1), (by rw [gi_si_ne (Or.inr (by decide +kernel))]; exact h.1.2.2.2.2.2.2.2.2.2.2.2.2.2.2.1), (by rw [gi_si_ne (Or.inr (by decide +kernel))]; exact h.1.2.2.2.2.2.2.2.2.2.2.2.2.2.2.2.1), (by rw [gi_si_ne (Or.inr (by decide +kernel))]; exact h.1.2.2.2.2.2.2.2.2.2.2.2.2.2.2.2.2.1), (by rw [gi_si_ne (Or.inr (by decide +kernel))]; exact h.1.2.2.2.2.2.2.2.2.2.2.2.2.2.2.2.2.2.1), (by rw [gi_si_ne (Or.inr (by decide +kernel))]; exact h.1.2.2.2.2.2.2.2.2.2.2.2.2.2.2.2.2.2.2.1), (by rw [gi_si_ne (Or.inr (by decide +kernel))]; exact h.1.2.2.2.2.2.2.2.2.2.2.2.2.2.2.2.2.2.2.2.1), (by rw [gi_si_ne (Or.inr (by decide +kernel))]; exact h.1.2.2.2.2.2.2.2.2.2.2.2.2.2.2.2.2.2.2.2.2.1), (by rw [gi_si_ne (Or.inr (by decide +kernel))]; exact h.1.2.2.2.2.2.2.2.2.2.2.2.2.2.2.2.2.2.2.2.2.2)⟩, MI1_f h.2.1, FV_si rfl (fun _ => by decide +kernel) h.2.2⟩
theorem MIs_f2 {σ : Sg} (h : MI σ) {v : Int32} (h1 : 0 ≤ v.toInt) (h2 : v.toInt ≤ 6) : MI (si σ 74 2 v) := ⟨⟨(by rw [gi_si_ne (Or.inr (by decide +kernel))]; exact h.1.1), (by rw [gi_si_ne (Or.inr (by decide +kernel))]; exact h.1.2.1), (by rw [gi_si_eq]; exact ⟨h1, h2⟩), (by rw [gi_si_ne (Or.inr (by decide +kernel))]; exact h.1.2.2.2.1), (by rw [gi_si_ne (Or.inr (by decide +kernel))]; exact h.1.2.2.2.2.1), (by rw [gi_si_ne (Or.inr (by decide +kernel))]; exact h.1.2.2.2.2.2.1), (by rw [gi_si_ne (Or.inr (by decide +kernel))]; exact h.1.2.2.2.2.2.2.1), (by rw [gi_si_ne (Or.inr (by decide +kernel))]; exact h.1.2.2.2.2.2.2.2.1), (by rw [gi_si_ne (Or.inr (by decide +kernel))]; exact h.1.2.2.2.2.2.2.2.2.1), (by rw [gi_si_ne (Or.inr (by decide +kernel))]; exact h.1.2.2.2.2.2.2.2.2.2.1), (by rw [gi_si_ne (Or.inr (by decide +kernel))]; exact h.1.2.2.2.2.2.2.2.2.2.2.1), (by rw [gi_si_ne (Or.inr (by decide +kernel))]; exact h.1.2.2.2.2.2.2.2.2.2.2.2.1), (by rw [gi_si_ne (Or.inr (by decide +kernel))]; exact h.1.2.2.2.2.2.2.2.2.2.2.2.2.1), (by rw [gi_si_ne (Or.inr (by decide +kernel))]; exact h.1.2.2.2.2.2.2.2.2.2.2.2.2.2.1), (by rw [gi_si_ne (Or.inr (by decide +kernel))]; exact h.1.2.2.2.2.2.2.2.2.2.2.2.2.2.2.1), (by rw [gi_si_ne (Or.inr (by decide +kernel))]; exact h.1.2.2.2.2.2.2.2.2.2.2.2.2.2.2.2.1), (by rw [gi_si_ne (Or.inr (by decide +kernel))]; exact h.1.2.2.2.2.2.2.2.2.2.2.2.2.2.2.2.2.1), (by rw [gi_si_ne (Or.inr (by decide +kernel))]; exact h.1.2.2.2.2.2.2.2.2.2.2.2.2.2.2.2.2.2.1), (by rw [gi_si_ne (Or.inr (by decide +kernel))]; exact h.1.2.2.2.2.2.2.2.2.2.2.2.2.2.2.2.2.2.2.1), (by rw [gi_si_ne (Or.inr (by decide +kernel))]; exact h.1.2.2.2.2.2.2.2.2.2.2.2.2.2.2.2.2.2.2.2.1), (by rw [gi_si_ne (Or.inr (by decide +kernel))]; exact h.1.2.2.2.2.2.2.2.2.2.2.2.2.2.2.2.2.2.2.2.2.1), (by rw [gi_si_ne (Or.inr (by decide +kernel))]; exact h.1.2.2.2.2.2.2.2.2.2.2.2.2.2.2.2.2.2.2.2.2.2)⟩, MI1_f h.2.1, FV_si rfl (fun _ => by decide +kernel) h.2.2⟩
theorem MIs_f11 {σ : Sg} (h : MI σ) {v : Int32} (h1 : 0 ≤ v.toInt) (h2 : v.toInt ≤ 6) (hF : FV (si σ 74 11 v)) : MI (si σ 74 11 v) := ⟨⟨(by rw [gi_si_ne (Or.inr (by decide +kernel))]; exact h.1.1), (by rw [gi_si_ne (Or.inr (by decide +kernel))]; exact h.1.2.1), (by rw [gi_si_ne (Or.inr (by decide +kernel))]; exact h.1.2.2.1), (by rw [gi_si_eq]; exact ⟨h1, h2⟩), (by rw [gi_si_ne (Or.inr (by decide +kernel))]; exact h.1.2.2.2.2.1), (by rw [gi_si_ne (Or.inr (by decide +kernel))]; exact h.1.2.2.2.2.2.1), (by rw [gi_si_ne (Or.inr (by decide +kernel))]; exact h.1.2.2.2.2.2.2.1), (by rw [gi_si_ne (Or.inr (by decide +kernel))]; exact h.1.2.2.2.2.2.2.2.1), (by rw [gi_si_ne (Or.inr (by decide +kernel))]; exact h.1.2.2.2.2.2.2.2.2.1), (by rw [gi_si_ne (Or.inr (by decide +kernel))]; exact h.1.2.2.2.2.2.2.2.2.2.1), (by rw [gi_si_ne (Or.inr (by decide +kernel))]; exact h.1.2.2.2.2.2.2.2.2.2.2.1), (by rw [gi_si_ne (Or.inr (by decide +kernel))]; exact h.1.2.2.2.2.2.2.2.2.2.2.2.1), (by rw [gi_si_ne (Or.inr (by decide +kernel))]; exact h.1.2.2.2.2.2.2.2.2.2.2.2.2.1), (by rw [gi_si_ne (Or.inr (by decide +kernel))]; exact h.1.2.2.2.2.2.2.2.2.2.2.2.2.2.1), (by rw [gi_si_ne (Or.inr (by decide +kernel))]; exact h.1.2.2.2.2.2.2.2.2.2.2.2.2.2.2.1), (by rw [gi_si_ne (Or.inr (by decide +kernel))]; exact h.1.2.2.2.2.2.2.2.2.2.2.2.2.2.2.2.1), (by rw [gi_si_ne (Or.inr (by decide +kernel))]; exact h.1.2.2.2.2.2.2.2.2.2.2.2.2.2.2.2.2.1), (by rw [gi_si_ne (Or.inr (by decide +kernel))]; exact h.1.2.2.2.2.2.2.2.2.2.2.2.2.2.2.2.2.2.1), (by rw [gi_si_ne (Or.inr (by decide +kernel))]; exact h.1.2.2.2.2.2.2.2.2.2.2.2.2.2.2.2.2.2.2.1), (by rw [gi_si_ne (Or.inr (by decide +kernel))]; exact h.1.2.2.2.2.2.2.2.2.2.2.2.2.2.2.2.2.2.2.2.1), (by rw [gi_si_ne (Or.inr (by decide +kernel))]; exact h.1.2.2.2.2.2.2.2.2.2.2.2.2.2.2.2.2.2.2.2.2.1), (by rw [gi_si_ne (Or.inr (by decide +kernel))]; exact h.1.2.2.2.2.2.2.2.2.2.2.2.2.2.2.2.2.2.2.2.2.2)⟩, MI1_f h.2.1, hF⟩
theorem MIs_f12 {σ : Sg} (h : MI σ) {v : Int32} (h1 : -1 ≤ v.toInt) (h2 : v.toInt ≤ 5) (hF : FV (si σ 74 12 v)) : MI (si σ 74 12 v) := ⟨⟨(by rw [gi_si_ne (Or.inr (by decide +kernel))]; exact h.1.1), (by rw [gi_si_ne (Or.inr (by decide +kernel))]; exact h.1.2.1), (by rw [gi_si_ne (Or.inr (by decide +kernel))]; exact h.1.2.2.1), (by rw [gi_si_ne (Or.inr (by decide +kernel))]; exact h.1.2.2.2.1), (by rw [gi_si_eq]; exact ⟨h1, h2⟩), (by rw [gi_si_ne (Or.inr (by decide +kernel))]; exact h.1.2.2.2.2.2.1), (by rw [gi_si_ne (Or.inr (by decide +kernel))]; exact h.1.2.2.2.2.2.2.1), (by rw [gi_si_ne (Or.inr (by decide +kernel))]; exact h.1.2.2.2.2.2.2.2.1), (by rw [gi_si_ne (Or.inr (by decide +kernel))]; exact h.1.2.2.2.2.2.2.2.2.1), (by rw [gi_si_ne (Or.inr (by decide +kernel))]; exact h.1.2.2.2.2.2.2.2.2.2.1), (by rw [gi_si_ne (Or.inr (by decide +kernel))]; exact h.1.2.2.2.2.2.2.2.2.2.2.1), (by rw [gi_si_ne (Or.inr (by decide +kernel))]; exact h.1.2.2.2.2.2.2.2.2.2.2.2.1), (by rw [gi_si_ne (Or.inr (by decide +kernel))]; exact h.1.2.2.2.2.2.2.2.2.2.2.2.2.1), (by rw [gi_si_ne (Or.inr (by decide +kernel))]; exact h.1.2.2.2.2.2.2.2.2.2.2.2.2.2.1), (by rw [gi_si_ne (Or.inr (by decide +kernel))]; exact h.1.2.2.2.2.2.2.2.2.2.2.2.2.2.2.1), (by rw [gi_si_ne (Or.inr (by decide +kernel))]; exact h.1.2.2.2.2.2.2.2.2.2.2.2.2.2.2.2.1), (by rw [gi_si_ne (Or.inr (by decide +kernel))]; exact h.1.2.2.2.2.2.2.2.2.2.2.2.2.2.2.2.2.1), (by rw [gi_si_ne (Or.inr (by decide +kernel))]; exact h.1.2.2.2.2.2.2.2.2.2.2.2.2.2.2.2.2.2.1), (by rw [gi_si_ne (Or.inr (by decide +kernel))]; exact h.1.2.2.2.2.2.2.2.2.2.2.2.2.2.2.2.2.2.2.1), (by rw [gi_si_ne (Or.inr (by decide +kernel))]; exact h.1.2.2.2.2.2.2.2.2.2.2.2.2.2.2.2.2.2.2.2.1), (by rw [gi_si_ne (Or.inr (by decide +kernel))]; exact h.1.2.2.2.2.2.2.2.2.2.2.2.2.2.2.2.2.2.2.2.2.1), (by rw [gi_si_ne (Or.inr (by decide +kernel))]; exact h.1.2.2.2.2.2.2.2.2.2.2.2.2.2.2.2.2.2.2.2.2.2)⟩, MI1_f h.2.1, hF⟩
theorem MIs_f13 {σ : Sg} (h : MI σ) {v : Int32} (h1 : 0 ≤ v.toInt) (h2 : v.toInt ≤ 100) : MI (si σ 74 13 v) := ⟨⟨(by rw [gi_si_ne (Or.inr (by decide +kernel))]; exact h.1.1), (by rw [gi_si_ne (Or.inr (by decide +kernel))]; exact h.1.2.1), (by rw [gi_si_ne (Or.inr (by decide +kernel))]; exact h.1.2.2.1), (by rw [gi_si_ne (Or.inr (by decide +kernel))]; exact h.1.2.2.2.1), (by rw [gi_si_ne (Or.inr (by decide +kernel))]; exact h.1.2.2.2.2.1), (by rw [gi_si_eq]; exact ⟨h1, h2⟩), (by rw [gi_si_ne (Or.inr (by decide +kernel))]; exact h.1.2.2.2.2.2.2.1), (by rw [gi_si_ne (Or.inr (by decide +kernel))]; exact h.1.2.2.2.2.2.2.2.1), (by rw [gi_si_ne (Or.inr (by decide +kernel))]; exact h.1.2.2.2.2.2.2.2.2.1), (by rw [gi_si_ne (Or.inr (by decide +kernel))]; exact h.1.2.2.2.2.2.2.2.2.2.1), (by rw [gi_si_ne (Or.inr (by decide +kernel))]; exact h.1.2.2.2.2.2.2.2.2.2.2.1), (by rw [gi_si_ne (Or.inr (by decide +kernel))]; exact h.1.2.2.2.2.2.2.2.2.2.2.2.1), (by rw [gi_si_ne (Or.inr (by decide +kernel))]; exact h.1.2.2.2.2.2.2.2.2.2.2.2.2.1), (by rw [gi_si_ne (Or.inr (by decide +kernel))]; exact h.1.2.2.2.2.2.2.2.2.2.2.2.2.2.1), (by rw [gi_si_ne (Or.inr (by decide +kernel))]; exact h.1.2.2.2.2.2.2.2.2.2.2.2.2.2.2.1), (by rw [gi_si_ne (Or.inr (by decide +kernel))]; exact h.1.2.2.2.2.2.2.2.2.2.2.2.2.2.2.2.1), (by rw [gi_si_ne (Or.inr (by decide +kernel))]; exact h.1.2.2.2.2.2.2.2.2.2.2.2.2.2.2.2.2.1), (by rw [gi_si_ne (Or.inr (by decide +kernel))]; exact h.1.2.2.2.2.2.2.2.2.2.2.2.2.2.2.2.2.2.1), (by rw [gi_si_ne (Or.inr (by decide +kernel))]; exact h.1.2.2.2.2.2.2.2.2.2.2.2.2.2.2.2.2.2.2.1), (by rw [gi_si_ne (Or.inr (by decide +kernel))]; exact h.1.2.2.2.2.2.2.2.2.2.2.2.2.2.2.2.2.2.2.2.1), (by rw [gi_si_ne (Or.inr (by decide +kernel))]; exact h.1.2.2.2.2.2.2.2.2.2.2.2.2.2.2.2.2.2.2.2.2.1), (by rw [gi_si_ne (Or.inr (by decide +kernel))]; exact h.1.2.2.2.2.2.2.2.2.2.2.2.2.2.2.2.2.2.2.2.2.2)⟩, MI1_f h.2.1, FV_si rfl (fun _ => by decide +kernel) h.2.2⟩
theorem MIs_f14 {σ : Sg} (h : MI σ) {v : Int32} (h1 : 0 ≤ v.toInt) (h2 : v.toInt ≤ 100) : MI (si σ 74 14 v) := ⟨⟨(by rw [gi_si_ne (Or.inr (by decide +kernel))]; exact h.1.1), (by rw [gi_si_ne (Or.inr (by decide +kernel))]; exact h.1.2.1), (by rw [gi_si_ne (Or.inr (by decide +kernel))]; exact h.1.2.2.1), (by rw [gi_si_ne (Or.inr (by decide +kernel))]; exact h.1.2.2.2.1), (by rw [gi_si_ne (Or.inr (by decide +kernel))]; exact h.1.2.2.2.2.1), (by rw [gi_si_ne (Or.inr (by decide +kernel))]; exact h.1.2.2.2.2.2.1), (by rw [gi_si_eq]; exact ⟨h1, h2⟩), (by rw [gi_si_ne (Or.inr (by decide +kernel))]; exact h.1.2.2.2.2.2.2.2.1), (by rw [gi_si_ne (Or.inr (by decide +kernel))]; exact h.1.2.2.2.2.2.2.2.2.1), (by rw [gi_si_ne (Or.inr (by decide +kernel))]; exact h.1.2.2.2.2.2.2.2.2.2.1), (by rw [gi_si_ne (Or.inr (by decide +kernel))]; exact h.1.2.2.2.2.2.2.2.2.2.2.1), (by rw [gi_si_ne (Or.inr (by decide +kernel))]; exact h.1.2.2.2.2.2.2.2.2.2.2.2.1), (by rw [gi_si_ne (Or.inr (by decide +kernel))]; exact h.1.2.2.2.2.2.2.2.2.2.2.2.2.1), (by rw [gi_si_ne (Or.inr (by decide +kernel))]; exact h.1.2.2.2.2.2.2.2.2.2.2.2.2.2.1), (by rw [gi_si_ne (Or.inr (by decide +kernel))]; exact h.1.2.2.2.2.2.2.2.2.2.2.2.2.2.2.1), (by rw [gi_si_ne (Or.inr (by decide +kernel))]; exact h.1.2.2.2.2.2.2.2.2.2.2.2.2.2.2.2.1), (by rw [gi_si_ne (Or.inr (by decide +kernel))]; exact h.1.2.2.2.2.2.2.2.2.2.2.2.2.2.2.2.2.1), (by rw [gi_si_ne (Or.inr (by decide +kernel))]; exact h.1.2.2.2.2.2.2.2.2.2.2.2.2.2.2.2.2.2.1), (by rw [gi_si_ne (Or.inr (by decide +kernel))]; exact h.1.2.2.2.2.2.2.2.2.2.2.2.2.2.2.2.2.2.2.1), (by rw [gi_si_ne (Or.inr (by decide +kernel))]; exact h.1.2.2.2.2.2.2.2.2.2.2.2.2.2.2.2.2.2.2.2.1), (by rw [gi_si_ne (Or.inr (by decide +kernel))]; exact h.1.2.2.2.2.2.2.2.2.2.2.2.2.2.2.2.2.2.2.2.2.1), (by rw [gi_si_ne (Or.inr (by decide +kernel))]; exact h.1.2.2.2.2.2.2.2.2.2.2.2.2.2.2.2.2.2.2.2.2.2)⟩, MI1_f h.2.1, FV_si rfl (fun _ => by decide +kernel) h.2.2⟩
theorem MIs_f15 {σ : Sg} (h : MI σ) {v : Int32} (h1 : 0 ≤ v.toInt) (h2 : v.toInt ≤ 99) : MI (si σ 74 15 v) := ⟨⟨(by rw [gi_si_ne (Or.inr (by decide +kernel))]; exact h.1.1), (by rw [gi_si_ne (Or.inr (by decide +kernel))]; exact h.1.2.1), (by rw [gi_si_ne (Or.inr (by decide +kernel))]; exact h.1.2.2.1), (by rw [gi_si_ne (Or.inr (by decide +kernel))]; exact h.1.2.2.2.1), (by rw [gi_si_ne (Or.inr (by decide +kernel))]; exact h.1.2.2.2.2.1), (by rw [gi_si_ne (Or.inr (by decide +kernel))]; exact h.1.2.2.2.2.2.1), (by rw [gi_si_ne (Or.inr (by decide +kernel))]; exact h.1.2.2.2.2.2.2.1), (by rw [gi_si_eq]; exact ⟨h1, h2⟩), (by rw [gi_si_ne (Or.inr (by decide +kernel))]; exact h.1.2.2.2.2.2.2.2.2.1), (by rw [gi_si_ne (Or.inr (by decide +kernel))]; exact h.1.2.2.2.2.2.2.2.2.2.1), (by rw [gi_si_ne (Or.inr (by decide +kernel))]; exact h.1.2.2.2.2.2.2.2.2.2.2.1), (by rw [gi_si_ne (Or.inr (by decide +kernel))]; exact h.1.2.2.2.2.2.2.2.2.2.2.2.1), (by rw [gi_si_ne (Or.inr (by decide +kernel))]; exact h.1.2.2.2.2.2.2.2.2.2.2.2.2.1), (by rw [gi_si_ne (Or.inr (by decide +kernel))]; exact h.1.2.2.2.2.2.2.2.2.2.2.2.2.2.1), (by rw [gi_si_ne (Or.inr (by decide +kernel))]; exact h.1.2.2.2.2.2.2.2.2.2.2.2.2.2.2.1), (by rw [gi_si_ne (Or.inr (by decide +kernel))]; exact h.1.2.2.2.2.2.2.2.2.2.2.2.2.2.2.2.1), (by rw [gi_si_ne (Or.inr (by decide +kernel))]; exact h.1.2.2.2.2.2.2.2.2.2.2.2.2.2.2.2.2.1), (by rw [gi_si_ne (Or.inr (by decide +kernel))]; exact h.1.2.2.2.2.2.2.2.2.2.2.2.2.2.2.2.2.2.1), (by rw [gi_si_ne (Or.inr (by decide +kernel))]; exact h.1.2.2.2.2.2.2.2.2.2.2.2.2.2.2.2.2.2.2.1), (by rw [gi_si_ne (Or.inr (by decide +kernel))]; exact h.1.2.2.2.2.2.2.2.2.2.2.2.2.2.2.2.2.2.2.2.1), (by rw [gi_si_ne (Or.inr (by decide +kernel))]; exact h.1.2.2.2.2.2.2.2.2.2.2.2.2.2.2.2.2.2.2.2.2.1), (by rw [gi_si_ne (Or.inr (by decide +kernel))]; exact h.1.2.2.2.2.2.2.2.2.2.2.2.2.2.2.2.2.2.2.2.2.2)⟩, MI1_f h.2.1, FV_si rfl (fun _ => by decide +kernel) h.2.2⟩
theorem MIs_f24 {σ : Sg} (h : MI σ) {v : Int32} (h1 : 0 ≤ v.toInt) (h2 : v.toInt ≤ 600) : MI (si σ 74 24 v) := ⟨⟨(by rw [gi_si_ne (Or.inr (by decide +kernel))]; exact h.1.1), (by rw [gi_si_ne (Or.inr (by decide +kernel))]; exact h.1.2.1), (by rw [gi_si_ne (Or.inr (by decide +kernel))]; exact h.1.2.2.1), (by rw [gi_si_ne (Or.inr (by decide +kernel))]; exact h.1.2.2.2.1), (by rw [gi_si_ne (Or.inr (by decide +kernel))]; exact h.1.2.2.2.2.1), (by rw [gi_si_ne (Or.inr (by decide +kernel))]; exact h.1.2.2.2.2.2.1), (by rw [gi_si_ne (Or.inr (by decide +kernel))]; exact h.1.2.2.2.2.2.2.1), (by rw [gi_si_ne (Or.inr (by decide +kernel))]; exact h.1.2.2.2.2.2.2.2.1), (by rw [gi_si_eq]; exact ⟨h1, h2⟩), (by rw [gi_si_ne (Or.inr (by decide +kernel))]; exact h.1.2.2.2.2.2.2.2.2.2.1), (by rw [gi_si_ne (Or.inr (by decide +kernel))]; exact h.1.2.2.2.2.2.2.2.2.2.2.1), (by rw [gi_si_ne (Or.inr (by decide +kernel))]; exact h.1.2.2.2.2.2.2.2.2.2.2.2.1), (by rw [gi_si_ne (Or.inr (by decide +kernel))]; exact h.1.2.2.2.2.2.2.2.2.2.2.2.2.1), (by rw [gi_si_ne (Or.inr (by decide +kernel))]; exact h.1.2.2.2.2.2.2.2.2.2.2.2.2.2.1), (by rw [gi_si_ne (Or.inr (by decide +kernel))]; exact h.1.2.2.2.2.2.2.2.2.2.2.2.2.2.2.1), (by rw [gi_si_ne (Or.inr (by decide +kernel))]; exact h.1.2.2.2.2.2.2.2.2.2.2.2.2.2.2.2.1), (by rw [gi_si_ne (Or.inr (by decide +kernel))]; exact h.1.2.2.2.2.2.2.2.2.2.2.2.2.2.2.2.2.1), (by rw [gi_si_ne (Or.inr (by decide +kernel))]; exact h.1.2.2.2.2.2.2.2.2.2.2.2.2.2.2.2.2.2.1), (by rw [gi_si_ne (Or.inr (by decide +kernel))]; exact h.1.2.2.2.2.2.2.2.2.2.2.2.2.2.2.2.2.2.2.1), (by rw [gi_si_ne (Or.inr (by decide +kernel))]; exact h.1.2.2.2.2.2.2.2.2.2.2.2.2.2.2.2.2.2.2.2.1), (by rw [gi_si_ne (Or.inr (by decide +kernel))]; exact h.1.2.2.2.2.2.2.2.2.2.2.2.2.2.2.2.2.2.2.2.2.1), (by rw [gi_si_ne (Or.inr (by decide +kernel))]; exact h.1.2.2.2.2.2.2.2.2.2.2.2.2.2.2.2.2.2.2.2.2.2)⟩, MI1_f h.2.1, FV_si rfl (fun _ => by decide +kernel) h.2.2⟩
theorem MIs_f25 {σ : Sg} (h : MI σ) {v : Int32} (h1 : 0 ≤ v.toInt) (h2 : v.toInt ≤ 101) : MI (si σ 74 25 v) := ⟨⟨(by rw [gi_si_ne (Or.inr (by decide +kernel))]; exact h.1.1), (by rw [gi_si_ne (Or.inr (by decide +kernel))]; exact h.1.2.1), (by rw [gi_si_ne (Or.inr (by decide +kernel))]; exact h.1.2.2.1), (by rw [gi_si_ne (Or.inr (by decide +kernel))]; exact h.1.2.2.2.1), (by rw [gi_si_ne (Or.inr (by decide +kernel))]; exact h.1.2.2.2.2.1), (by rw [gi_si_ne (Or.inr (by decide +kernel))]; exact h.1.2.2.2.2.2.1), (by rw [gi_si_ne (Or.inr (by decide +kernel))]; exact h.1.2.2.2.2.2.2.1), (by rw [gi_si_ne (Or.inr (by decide +kernel))]; exact h.1.2.2.2.2.2.2.2.1), (by rw [gi_si_ne (Or.inr (by decide +kernel))]; exact h.1.2.2.2.2.2.2.2.2.1), (by rw [gi_si_eq]; exact ⟨h1, h2⟩), (by rw [gi_si_ne (Or.inr (by decide +kernel))]; exact h.1.2.2.2.2.2.2.2.2.2.2.1), (by rw [gi_si_ne (Or.inr (by decide +kernel))]; exact h.1.2.2.2.2.2.2.2.2.2.2.2.1), (by rw [gi_si_ne (Or.inr (by decide +kernel))]; exact h.1.2.2.2.2.2.2.2.2.2.2.2.2.1), (by rw [gi_si_ne (Or.inr (by decide +kernel))]; exact h.1.2.2.2.2.2.2.2.2.2.2.2.2.2.1), (by rw [gi_si_ne (Or.inr (by decide +kernel))]; exact h.1.2.2.2.2.2.2.2.2.2.2.2.2.2.2.1), (by rw [gi_si_ne (Or.inr (by decide +kernel))]; exact h.1.2.2.2.2.2.2.2.2.2.2.2.2.2.2.2.1), (by rw [gi_si_ne (Or.inr (by decide +kernel))]; exact h.1.2.2.2.2.2.2.2.2.2.2.2.2.2.2.2.2.1), (by rw [gi_si_ne (Or.inr (by decide +kernel))]; exact h.1.2.2.2.2.2.2.2.2.2.2.2.2.2.2.2.2.2.1), (by rw [gi_si_ne (Or.inr (by decide +kernel))]; exact h.1.2.2.2.2.2.2.2.2.2.2.2.2.2.2.2.2.2.2.1), (by rw [gi_si_ne (Or.inr (by decide +kernel))]; exact h.1.2.2.2.2.2.2.2.2.2.2.2.2.2.2.2.2.2.2.2.1), (by rw [gi_si_ne (Or.inr (by decide +kernel))]; exact h.1.2.2.2.2.2.2.2.2.2.2.2.2.2.2.2.2.2.2.2.2.1), (by rw [gi_si_ne (Or.inr (by decide +kernel))]; exact h.1.2.2.2.2.2.2.2.2.2.2.2.2.2.2.2.2.2.2.2.2.2)⟩, MI1_f h.2.1, FV_si rfl (fun _ => by decide +kernel) h.2.2⟩
theorem MIs_f30 {σ : Sg} (h : MI σ) {v : Int32} (h1 : -100 ≤ v.toInt) (h2 : v.toInt ≤ 100) : MI (si σ 74 30 v) := ⟨⟨(by rw [gi_si_ne (Or.inr (by decide +kernel))]; exact h.1.1), (by rw [gi_si_ne (Or.inr (by decide +kernel))]; exact h.1.2.1), (by rw [gi_si_ne (Or.inr (by decide +kernel))]; exact h.1.2.2.1), (by rw [gi_si_ne (Or.inr (by decide +kernel))]; exact h.1.2.2.2.1), (by rw [gi_si_ne (Or.inr (by decide +kernel))]; exact h.1.2.2.2.2.1), (by rw [gi_si_ne (Or.inr (by decide +kernel))]; exact h.1.2.2.2.2.2.1), (by rw [gi_si_ne (Or.inr (by decide +kernel))]; exact h.1.2.2.2.2.2.2.1), (by rw [gi_si_ne (Or.inr (by decide +kernel))]; exact h.1.2.2.2.2.2.2.2.1), (by rw [gi_si_ne (Or.inr (by decide +kernel))]; exact h.1.2.2.2.2.2.2.2.2.1), (by rw [gi_si_ne (Or.inr (by decide +kernel))]; exact h.1.2.2.2.2.2.2.2.2.2.1), (by rw [gi_si_eq]; exact ⟨h1, h2⟩), (by rw [gi_si_ne (Or.inr (by decide +kernel))]; exact h.1.2.2.2.2.2.2.2.2.2.2.2.1), (by rw [gi_si_ne (Or.inr (by decide +kernel))]; exact h.1.2.2.2.2.2.2.2.2.2.2.2.2.1), (by rw [gi_si_ne (Or.inr (by decide +kernel))]; exact h.1.2.2.2.2.2.2.2.2.2.2.2.2.2.1), (by rw [gi_si_ne (Or.inr (by decide +kernel))]; exact h.1.2.2.2.2.2.2.2.2.2.2.2.2.2.2.1), (by rw [gi_si_ne (Or.inr (by decide +kernel))]; exact h.1.2.2.2.2.2.2.2.2.2.2.2.2.2.2.2.1), (by rw [gi_si_ne (Or.inr (by decide +kernel))]; exact h.1.2.2.2.2.2.2.2.2.2.2.2.2.2.2.2.2.1), (by rw [gi_si_ne (Or.inr (by decide +kernel))]; exact h.1.2.2.2.2.2.2.2.2.2.2.2.2.2.2.2.2.2.1), (by rw [gi_si_ne (Or.inr (by decide +kernel))]; exact h.1.2.2.2.2.2.2.2.2.2.2.2.2.2.2.2.2.2.2.1), (by rw [gi_si_ne (Or.inr (by decide +kernel))]; exact h.1.2.2.2.2.2.2.2.2.2.2.2.2.2.2.2.2.2.2.2.1), (by rw [gi_si_ne (Or.inr (by decide +kernel))]; exact h.1.2.2.2.2.2.2.2.2.2.2.2.2.2.2.2.2.2.2.2.2.1), (by rw [gi_si_ne (Or.inr (by decide +kernel))]; exact h.1.2.2.2.2.2.2.2.2.2.2.2.2.2.2.2.2.2.2.2.2.2)⟩, MI1_f h.2.1, FV_si rfl (fun _ => by decide +kernel) h.2.2⟩
theorem MIs_f33 {σ : Sg} (h : MI σ) {v : Int32} (h1 : 0 ≤ v.toInt) (h2 : v.toInt ≤ 20000) : MI (si σ 74 33 v) := ⟨⟨(by rw [gi_si_ne (Or.inr (by decide +kernel))]; exact h.1.1), (by rw [gi_si_ne (Or.inr (by decide +kernel))]; exact h.1.2.1), (by rw [gi_si_ne (Or.inr (by decide +kernel))]; exact h.1.2.2.1), (by rw [gi_si_ne (Or.inr (by decide +kernel))]; exact h.1.2.2.2.1), (by rw [gi_si_ne (Or.inr (by decide +kernel))]; exact h.1.2.2.2.2.1), (by rw [gi_si_ne (Or.inr (by decide +kernel))]; exact h.1.2.2.2.2.2.1), (by rw [gi_si_ne (Or.inr (by decide +kernel))]; exact h.1.2.2.2.2.2.2.1), (by rw [gi_si_ne (Or.inr (by decide +kernel))]; exact h.1.2.2.2.2.2.2.2.1), (by rw [gi_si_ne (Or.inr (by decide +kernel))]; exact h.1.2.2.2.2.2.2.2.2.1), (by rw [gi_si_ne (Or.inr (by decide +kernel))]; exact h.1.2.2.2.2.2.2.2.2.2.1), (by rw [gi_si_ne (Or.inr (by decide +kernel))]; exact h.1.2.2.2.2.2.2.2.2.2.2.1), (by rw [gi_si_eq]; exact ⟨h1, h2⟩), (by rw [gi_si_ne (Or.inr (by decide +kernel))]; exact h.1.2.2.2.2.2.2.2.2.2.2.2.2.1), (by rw [gi_si_ne (Or.inr (by decide +kernel))]; exact h.1.2.2.2.2.2.2.2.2.2.2.2.2.2.1), (by rw [gi_si_ne (Or.inr (by decide +kernel))]; exact h.1.2.2.2.2.2.2.2.2.2.2.2.2.2.2.1), (by rw [gi_si_ne (Or.inr (by decide +kernel))]; exact h.1.2.2.2.2.2.2.2.2.2.2.2.2.2.2.2.1), (by rw [gi_si_ne (Or.inr (by decide +kernel))]; exact h.1.2.2.2.2.2.2.2.2.2.2.2.2.2.2.2.2.1), (by rw [gi_si_ne (Or.inr (by decide +kernel))]; exact h.1.2.2.2.2.2.2.2.2.2.2.2.2.2.2.2.2.2.1), (by rw [gi_si_ne (Or.inr (by decide +kernel))]; exact h.1.2.2.2.2.2.2.2.2.2.2.2.2.2.2.2.2.2.2.1), (by rw [gi_si_ne (Or.inr (by decide +kernel))]; exact h.1.2.2.2.2.2.2.2.2.2.2.2.2.2.2.2.2.2.2.2.1), (by rw [gi_si_ne (Or.inr (by decide +kernel))]; exact h.1.2.2.2.2.2.2.2.2.2.2.2.2.2.2.2.2.2.2.2.2.1), (by rw [gi_si_ne (Or.inr (by decide +kernel))]; exact h.1.2.2.2.2.2.2.2.2.2.2.2.2.2.2.2.2.2.2.2.2.2)⟩, MI1_f h.2.1, FV_si rfl (fun _ => by decide +kernel) h.2.2⟩
theorem MIs_f41 {σ : Sg} (h : MI σ) {v : Int32} (h1 : 0 ≤ v.toInt) (h2 : v.toInt ≤ 6) : MI (si σ 74 41 v) := ⟨⟨(by rw [gi_si_ne (Or.inr (by decide +kernel))]; exact h.1.1), (by rw [gi_si_ne (Or.inr (by decide +kernel))]; exact h.1.2.1), (by rw [gi_si_ne (Or.inr (by decide +kernel))]; exact h.1.2.2.1), (by rw [gi_si_ne (Or.inr (by decide +kernel))]; exact h.1.2.2.2.1), (by rw [gi_si_ne (Or.inr (by decide +kernel))]; exact h.1.2.2.2.2.1), (by rw [gi_si_ne (Or.inr (by decide +kernel))]; exact h.1.2.2.2.2.2.1), (by rw [gi_si_ne (Or.inr (by decide +kernel))]; exact h.1.2.2.2.2.2.2.1), (by rw [gi_si_ne (Or.inr (by decide +kernel))]; exact h.1.2.2.2.2.2.2.2.1), (by rw [gi_si_ne (Or.inr (by decide +kernel))]; exact h.1.2.2.2.2.2.2.2.2.1), (by rw [gi_si_ne (Or.inr (by decide +kernel))]; exact h.1.2.2.2.2.2.2.2.2.2.1), (by rw [gi_si_ne (Or.inr (by decide +kernel))]; exact h.1.2.2.2.2.2.2.2.2.2.2.1), (by rw [gi_si_ne (Or.inr (by decide +kernel))]; exact h.1.2.2.2.2.2.2.2.2.2.2.2.1), (by rw [gi_si_eq]; exact ⟨h1, h2⟩), (by rw [gi_si_ne (Or.inr (by decide +kernel))]; exact h.1.2.2.2.2.2.2.2.2.2.2.2.2.2.1), (by rw [gi_si_ne (Or.inr (by decide +kernel))]; exact h.1.2.2.2.2.2.2.2.2.2.2.2.2.2.2.1), (by rw [gi_si_ne (Or.inr (by decide +kernel))]; exact h.1.2.2.2.2.2.2.2.2.2.2.2.2.2.2.2.1), (by rw [gi_si_ne (Or.inr (by decide +kernel))]; exact h.1.2.2.2.2.2.2.2.2.2.2.2.2.2.2.2.2.1), (by rw [gi_si_ne (Or.inr (by decide +kernel))]; exact h.1.2.2.2.2.2.2.2.2.2.2.2.2.2.2.2.2.2.1), (by rw [gi_si_ne (Or.inr (by decide +kernel))]; exact h.1.2.2.2.2.2.2.2.2.2.2.2.2.2.2.2.2.2.2.1), (by rw [gi_si_ne (Or.inr (by decide +kernel))]; exact h.1.2.2.2.2.2.2.2.2.2.2.2.2.2.2.2.2.2.2.2.1), (by rw [gi_si_ne (Or.inr (by decide +kernel))]; exact h.1.2.2.2.2.2.2.2.2.2.2.2.2.2.2.2.2.2.2.2.2.1), (by rw [gi_si_ne (Or.inr (by decide +kernel))]; exact h.1.2.2.2.2.2.2.2.2.2.2.2.2.2.2.2.2.2.2.2.2.2)⟩, MI1_f h.2.1, FV_si rfl (fun _ => by decide +kernel) h.2.2⟩
theorem MIs_f45 {σ : Sg} (h : MI σ) {v : Int32} (h1 : 0 ≤ v.toInt) (h2 : v.toInt ≤ 10) : MI (si σ 74 45 v) := ⟨⟨(by rw [gi_si_ne (Or.inr (by decide +kernel))]; exact h.1.1), (by rw [gi_si_ne (Or.inr (by decide +kernel))]; exact h.1.2.1), (by rw [gi_si_ne (Or.inr (by decide +kernel))]; exact h.1.2.2.1), (by rw [gi_si_ne (Or.inr (by decide +kernel))]; exact h.1.2.2.2.1), (by rw [gi_si_ne (Or.inr (by decide +kernel))]; exact h.1.2.2.2.2.1), (by rw [gi_si_ne (Or.inr (by decide +kernel))]; exact h.1.2.2.2.2.2.1), (by rw [gi_si_ne (Or.inr (by decide +kernel))]; exact h.1.2.2.2.2.2.2.1), (by rw [gi_si_ne (Or.inr (by decide +kernel))]; exact h.1.2.2.2.2.2.2.2.1), (by rw [gi_si_ne (Or.inr (by decide +kernel))]; exact h.1.2.2.2.2.2.2.2.2.1), (by rw [gi_si_ne (Or.inr (by decide +kernel))]; exact h.1.2.2.2.2.2.2.2.2.2.1), (by rw [gi_si_ne (Or.inr (by decide +kernel))]; exact h.1.2.2.2.2.2.2.2.2.2.2.1), (by rw [gi_si_ne (Or.inr (by decide +kernel))]; exact h.1.2.2.2.2.2.2.2.2.2.2.2.1), (by rw [gi_si_ne (Or.inr (by decide +kernel))]; exact h.1.2.2.2.2.2.2.2.2.2.2.2.2.1), (by rw [gi_si_eq]; exact ⟨h1, h2⟩), (by rw [gi_si_ne (Or.inr (by decide +kernel))]; exact h.1.2.2.2.2.2.2.2.2.2.2.2.2.2.2.1), (by rw [gi_si_ne (Or.inr (by decide +kernel))]; exact h.1.2.2.2.2.2.2.2.2.2.2.2.2.2.2.2.1), (by rw [gi_si_ne (Or.inr (by decide +kernel))]; exact h.1.2.2.2.2.2.2.2.2.2.2.2.2.2.2.2.2.1), (by rw [gi_si_ne (Or.inr (by decide +kernel))]; exact h.1.2.2.2.2.2.2.2.2.2.2.2.2.2.2.2.2.2.1), (by rw [gi_si_ne (Or.inr (by decide +kernel))]; exact h.1.2.2.2.2.2.2.2.2.2.2.2.2.2.2.2.2.2.2.1), (by rw [gi_si_ne (Or.inr (by decide +kernel))]; exact h.1.2.2.2.2.2.2.2.2.2.2.2.2.2.2.2.2.2.2.2.1), (by rw [gi_si_ne (Or.inr (by decide +kernel))]; exact h.1.2.2.2.2.2.2.2.2.2.2.2.2.2.2.2.2.2.2.2.2.1), (by rw [gi_si_ne (Or.inr (by decide +kernel))]; exact h.1.2.2.2.2.2.2.2.2.2.2.2.2.2.2.2.2.2.2.2.2.2)⟩, MI1_f h.2.1, FV_si rfl (fun _ => by decide +kernel) h.2.2⟩
theorem MIs_f46 {σ : Sg} (h : MI σ) {v : Int32} (h1 : 0 ≤ v.toInt) (h2 : v.toInt ≤ 8) : MI (si σ 74 46 v) := ⟨⟨(by rw [gi_si_ne (Or.inr (by decide +kernel))]; exact h.1.1), (by rw [gi_si_ne (Or.inr (by decide +kernel))]; exact h.1.2.1), (by rw [gi_si_ne (Or.inr (by decide +kernel))]; exact h.1.2.2.1), (by rw [gi_si_ne (Or.inr (by decide +kernel))]; exact h.1.2.2.2.1), (by rw [gi_si_ne (Or.inr (by decide +kernel))]; exact h.1.2.2.2.2.1), (by rw [gi_si_ne (Or.inr (by decide +kernel))]; exact h.1.2.2.2.2.2.1), (by rw [gi_si_ne (Or.inr (by decide +kernel))]; exact h.1.2.2.2.2.2.2.1), (by rw [gi_si_ne (Or.inr (by decide +kernel))]; exact h.1.2.2.2.2.2.2.2.1), (by rw [gi_si_ne (Or.inr (by decide +kernel))]; exact h.1.2.2.2.2.2.2.2.2.1), (by rw [gi_si_ne (Or.inr (by decide +kernel))]; exact h.1.2.2.2.2.2.2.2.2.2.1), (by rw [gi_si_ne (Or.inr (by decide +kernel))]; exact h.1.2.2.2.2.2.2.2.2.2.2.1), (by rw [gi_si_ne (Or.inr (by decide +kernel))]; exact h.1.2.2.2.2.2.2.2.2.2.2.2.1), (by rw [gi_si_ne (Or.inr (by decide +kernel))]; exact h.1.2.2.2.2.2.2.2.2.2.2.2.2.1), (by rw [gi_si_ne (Or.inr (by decide +kernel))]; exact h.1.2.2.2.2.2.2.2.2.2.2.2.2.2.1), (by rw [gi_si_eq]; exact ⟨h1, h2⟩), (by rw [gi_si_ne (Or.inr (by decide +kernel))]; exact h.1.2.2.2.2.2.2.2.2.2.2.2.2.2.2.2.1), (by rw [gi_si_ne (Or.inr (by decide +kernel))]; exact h.1.2.2.2.2.2.2.2.2.2.2.2.2.2.2.2.2.1), (by rw [gi_si_ne (Or.inr (by decide +kernel))]; exact h.1.2.2.2.2.2.2.2.2.2.2.2.2.2.2.2.2.2.1), (by rw [gi_si_ne (Or.inr (by decide +kernel))]; exact h.1.2.2.2.2.2.2.2.2.2.2.2.2.2.2.2.2.2.2.1), (by rw [gi_si_ne (Or.inr (by decide +kernel))]; exact h.1.2.2.2.2.2.2.2.2.2.2.2.2.2.2.2.2.2.2.2.1), (by rw [gi_si_ne (Or.inr (by decide +kernel))]; exact h.1.2.2.2.2.2.2.2.2.2.2.2.2.2.2.2.2.2.2.2.2.1), (by rw [gi_si_ne (Or.inr (by decide +kernel))]; exact h.1.2.2.2.2.2.2.2.2.2.2.2.2.2.2.2.2.2.2.2.2.2)⟩, MI1_f h.2.1, FV_si rfl (fun _ => by decide +kernel) h.2.2⟩
theorem MIs_f50 {σ : Sg} (h : MI σ) {v : Int32} (h1 : -1 ≤ v.toInt) (h2 : v.toInt ≤ 5) (hF : FV (si σ 74 50 v)) : MI (si σ 74 50 v) := ⟨⟨(by rw [gi_si_ne (Or.inr (by decide +kernel))]; exact h.1.1), (by rw [gi_si_ne (Or.inr (by decide +kernel))]; exact h.1.2.1), (by rw [gi_si_ne (Or.inr (by decide +kernel))]; exact h.1.2.2.1), (by rw [gi_si_ne (Or.inr (by decide +kernel))]; exact h.1.2.2.2.1), (by rw [gi_si_ne (Or.inr (by decide +kernel))]; exact h.1.2.2.2.2.1), (by rw [gi_si_ne (Or.inr (by decide +kernel))]; exact h.1.2.2.2.2.2.1), (by rw [gi_si_ne (Or.inr (by decide +kernel))]; exact h.1.2.2.2.2.2.2.1), (by rw [gi_si_ne (Or.inr (by decide +kernel))]; exact h.1.2.2.2.2.2.2.2.1), (by rw [gi_si_ne (Or.inr (by decide +kernel))]; exact h.1.2.2.2.2.2.2.2.2.1), (by rw [gi_si_ne (Or.inr (by decide +kernel))]; exact h.1.2.2.2.2.2.2.2.2.2.1), (by rw [gi_si_ne (Or.inr (by decide +kernel))]; exact h.1.2.2.2.2.2.2.2.2.2.2.1), (by rw [gi_si_ne (Or.inr (by decide +kernel))]; exact h.1.2.2.2.2.2.2.2.2.2.2.2.1), (by rw [gi_si_ne (Or.inr (by decide +kernel))]; exact h.1.2.2.2.2.2.2.2.2.2.2.2.2.1), (by rw [gi_si_ne (Or.inr (by decide +kernel))]; exact h.1.2.2.2.2.2.2.2.2.2.2.2.2.2.1), (by rw [gi_si_ne (Or.inr (by decide +kernel))]; exact h.1.2.2.2.2.2.2.2.2.2.2.2.2.2.2.1), (by rw [gi_si_eq]; exact ⟨h1, h2⟩), (by rw [gi_si_ne (Or.inr (by decide +kernel))]; exact h.1.2.2.2.2.2.2.2.2.2.2.2.2.2.2.2.2.1), (by rw [gi_si_ne (Or.inr (by decide +kernel))]; exact h.1.2.2.2.2.2.2.2.2.2.2.2.2.2.2.2.2.2.1), (by rw [gi_si_ne (Or.inr (by decide +kernel))]; exact h.1.2.2.2.2.2.2.2.2.2.2.2.2.2.2.2.2.2.2.1), (by rw [gi_si_ne (Or.inr (by decide +kernel))]; exact h.1.2.2.2.2.2.2.2.2.2.2.2.2.2.2.2.2.2.2.2.1), (by rw [gi_si_ne (Or.inr (by decide +kernel))]; exact h.1.2.2.2.2.2.2.2.2.2.2.2.2.2.2.2.2.2.2.2.2.1), (by rw [gi_si_ne (Or.inr (by decide +kernel))]; exact h.1.2.2.2.2.2.2.2.2.2.2.2.2.2.2.2.2.2.2.2.2.2)⟩, MI1_f h.2.1, hF⟩
theorem MIs_f51 {σ : Sg} (h : MI σ) {v : Int32} (h1 : 0 ≤ v.toInt) (h2 : v.toInt ≤ 6) : MI (si σ 74 51 v) := ⟨⟨(by rw [gi_si_ne (Or.inr (by decide +kernel))]; exact h.1.1), (by rw [gi_si_ne (Or.inr (by decide +kernel))]; exact h.1.2.1), (by rw [gi_si_ne (Or.inr (by decide +kernel))]; exact h.1.2.2.1), (by rw [gi_si_ne (Or.inr (by decide +kernel))]; exact h.1.2.2.2.1), (by rw [gi_si_ne (Or.inr (by decide +kernel))]; exact h.1.2.2.2.2.1), (by rw [gi_si_ne (Or.inr (by decide +kernel))]; exact h.1.2.2.2.2.2.1), (by rw [gi_si_ne (Or.inr (by decide +kernel))]; exact h.1.2.2.2.2.2.2.1), (by rw [gi_si_ne (Or.inr (by decide +kernel))]; exact h.1.2.2.2.2.2.2.2.1), (by rw [gi_si_ne (Or.inr (by decide +kernel))]; exact h.1.2.2.2.2.2.2.2.2.1), (by rw [gi_si_ne (Or.inr (by decide +kernel))]; exact h.1.2.2.2.2.2.2.2.2.2.1), (by rw [gi_si_ne (Or.inr (by decide +kernel))]; exact h.1.2.2.2.2.2.2.2.2.2.2.1), (by rw [gi_si_ne (Or.inr (by decide +kernel))]; exact h.1.2.2.2.2.2.2.2.2.2.2.2.1), (by rw [gi_si_ne (Or.inr (by decide +kernel))]; exact h.1.2.2.2.2.2.2.2.2.2.2.2.2.1), (by rw [gi_si_ne (Or.inr (by decide +kernel))]; exact h.1.2.2.2.2.2.2.2.2.2.2.2.2.2.1), (by rw [gi_si_ne (Or.inr (by decide +kernel))]; exact h.1.2.2.2.2.2.2.2.2.2.2.2.2.2.2.1), (by rw [gi_si_ne (Or.inr (by decide +kernel))]; exact h.1.2.2.2.2.2.2.2.2.2.2.2.2.2.2.2.1), (by rw [gi_si_eq]; exact ⟨h1, h2⟩), (by rw [gi_si_ne (Or.inr (by decide +kernel))]; exact h.1.2.2.2.2.2.2.2.2.2.2.2.2.2.2.2.2.2.1), (by rw [gi_si_ne (Or.inr (by decide +kernel))]; exact h.1.2.2.2.2.2.2.2.2.2.2.2.2.2.2.2.2.2.2.1), (by rw [gi_si_ne (Or.inr (by decide +kernel))]; exact h.1.2.2.2.2.2.2.2.2.2.2.2.2.2.2.2.2.2.2.2.1), (by rw [gi_si_ne (Or.inr (by decide +kernel))]; exact h.1.2.2.2.2.2.2.2.2.2.2.2.2.2.2.2.2.2.2.2.2.1), (by rw [gi_si_ne (Or.inr (by decide +kernel))]; exact h.1.2.2.2.2.2.2.2.2.2.2.2.2.2.2.2.2.2.2.2.2.2)⟩, MI1_f h.2.1, FV_si rfl (fun _ => by decide +kernel) h.2.2⟩
theorem MIs_f52 {σ : Sg} (h : MI σ) {v : Int32} (h1 : 0 ≤ v.toInt) (h2 : v.toInt ≤ 20000) : MI (si σ 74 52 v) := ⟨⟨(by rw [gi_si_ne (Or.inr (by decide +kernel))]; exact h.1.1), (by rw [gi_si_ne (Or.inr (by decide +kernel))]; exact h.1.2.1), (by rw [gi_si_ne (Or.inr (by decide +kernel))]; exact h.1.2.2.1), (by rw [gi_si_ne (Or.inr (by decide +kernel))]; exact h.1.2.2.2.1), (by rw [gi_si_ne (Or.inr (by decide +kernel))]; exact h.1.2.2.2.2.1), (by rw [gi_si_ne (Or.inr (by decide +kernel))]; exact h.1.2.2.2.2.2.1), (by rw [gi_si_ne (Or.inr (by decide +kernel))]; exact h.1.2.2.2.2.2.2.1), (by rw [gi_si_ne (Or.inr (by decide +kernel))]; exact h.1.2.2.2.2.2.2.2.1), (by rw [gi_si_ne (Or.inr (by decide +kernel))]; exact h.1.2.2.2.2.2.2.2.2.1), (by rw [gi_si_ne (Or.inr (by decide +kernel))]; exact h.1.2.2.2.2.2.2.2.2.2.1), (by rw [gi_si_ne (Or.inr (by decide +kernel))]; exact h.1.2.2.2.2.2.2.2.2.2.2.1), (by rw [gi_si_ne (Or.inr (by decide +kernel))]; exact h.1.2.2.2.2.2.2.2.2.2.2.2.1), (by rw [gi_si_ne (Or.inr (by decide +kernel))]; exact h.1.2.2.2.2.2.2.2.2.2.2.2.2.1), (by rw [gi_si_ne (Or.inr (by decide +kernel))]; exact h.1.2.2.2.2.2.2.2.2.2.2.2.2.2.1), (by rw [gi_si_ne (Or.inr (by decide +kernel))]; exact h.1.2.2.2.2.2.2.2.2.2.2.2.2.2.2.1), (by rw [gi_si_ne (Or.inr (by decide +kernel))]; exact h.1.2.2.2.2.2.2.2.2.2.2.2.2.2.2.2.1), (by rw [gi_si_ne (Or.inr (by decide +kernel))]; exact h.1.2.2.2.2.2.2.2.2.2.2.2.2.2.2.2.2.1), (by rw [gi_si_eq]; exact ⟨h1, h2⟩), (by rw [gi_si_ne (Or.inr (by decide +kernel))]; exact h.1.2.2.2.2.2.2.2.2.2.2.2.2.2.2.2.2.2.2.1), (by rw [gi_si_ne (Or.inr (by decide +kernel))]; exact h.1.2.2.2.2.2.2.2.2.2.2.2.2.2.2.2.2.2.2.2.1), (by rw [gi_si_ne (Or.inr (by decide +kernel))]; exact h.1.2.2.2.2.2.2.2.2.2.2.2.2.2.2.2.2.2.2.2.2.1), (by rw [gi_si_ne (Or.inr (by decide +kernel))]; exact h.1.2.2.2.2.2.2.2.2.2.2.2.2.2.2.2.2.2.2.2.2.2)⟩, MI1_f h.2.1, FV_si rfl (fun _ => by decide +kernel) h.2.2⟩
theorem MIs_f53 {σ : Sg} (h : MI σ) {v : Int32} (h1 : 0 ≤ v.toInt) (h2 : v.toInt ≤ 6) : MI (si σ 74 53 v) := ⟨⟨(by rw [gi_si_ne (Or.inr (by decide +kernel))]; exact h.1.1), (by rw [gi_si_ne (Or.inr (by decide +kernel))]; exact h.1.2.1), (by rw [gi_si_ne (Or.inr (by decide +kernel))]; exact h.1.2.2.1), (by rw [gi_si_ne (Or.inr (by decide +kernel))]; exact h.1.2.2.2.1), (by rw [gi_si_ne (Or.inr (by decide +kernel))]; exact h.1.2.2.2.2.1), (by rw [gi_si_ne (Or.inr (by decide +kernel))]; exact h.1.2.2.2.2.2.1), (by rw [gi_si_ne (Or.inr (by decide +kernel))]; exact h.1.2.2.2.2.2.2.1), (by rw [gi_si_ne (Or.inr (by decide +kernel))]; exact h.1.2.2.2.2.2.2.2.1), (by rw [gi_si_ne (Or.inr (by decide +kernel))]; exact h.1.2.2.2.2.2.2.2.2.1), (by rw [gi_si_ne (Or.inr (by decide +kernel))]; exact h.1.2.2.2.2.2.2.2.2.2.1), (by rw [gi_si_ne (Or.inr (by decide +kernel))]; exact h.1.2.2.2.2.2.2.2.2.2.2.1), (by rw [gi_si_ne (Or.inr (by decide +kernel))]; exact h.1.2.2.2.2.2.2.2.2.2.2.2.1), (by rw [gi_si_ne (Or.inr (by decide +kernel))]; exact h.1.2.2.2.2.2.2.2.2.2.2.2.2.1), (by rw [gi_si_ne (Or.inr (by decide +kernel))]; exact h.1.2.2.2.2.2.2.2.2.2.2.2.2.2.1), (by rw [gi_si_ne (Or.inr (by decide +kernel))]; exact h.1.2.2.2.2.2.2.2.2.2.2.2.2.2.2.1), (by rw [gi_si_ne (Or.inr (by decide +kernel))]; exact h.1.2.2.2.2.2.2.2.2.2.2.2.2.2.2.2.1), (by rw [gi_si_ne (Or.inr (by decide +kernel))]; exact h.1.2.2.2.2.2.2.2.2.2.2.2.2.2.2.2.2.1), (by rw [gi_si_ne (Or.inr (by decide +kernel))]; exact h.1.2.2.2.2.2.2.2.2.2.2.2.2.2.2.2.2.2.1), (by rw [gi_si_eq]; exact ⟨h1, h2⟩), (by rw [gi_si_ne (Or.inr (by decide +kernel))]; exact h.1.2.2.2.2.2.2.2.2.2.2.2.2.2.2.2.2.2.2.2.1), (by rw [gi_si_ne (Or.inr (by decide +kernel))]; exact h.1.2.2.2.2.2.2.2.2.2.2.2.2.2.2.2.2.2.2.2.2.1), (by rw [gi_si_ne (Or.inr (by decide +kernel))]; exact h.1.2.2.2.2.2.2.2.2.2.2.2.2.2.2.2.2.2.2.2.2.2)⟩, MI1_f h.2.1, FV_si rfl (fun _ => by decide +kernel) h.2.2⟩
theorem MIs_f54 {σ : Sg} (h : MI σ) {v : Int32} (h1 : 0 ≤ v.toInt) (h2 : v.toInt ≤ 10) : MI (si σ 74 54 v) := ⟨⟨(by rw [gi_si_ne (Or.inr (by decide +kernel))]; exact h.1.1), (by rw [gi_si_ne (Or.inr (by decide +kernel))]; exact h.1.2.1), (by rw [gi_si_ne (Or.inr (by decide +kernel))]; exact h.1.2.2.1), (by rw [gi_si_ne (Or.inr (by decide +kernel))]; exact h.1.2.2.2.1), (by rw [gi_si_ne (Or.inr (by decide +kernel))]; exact h.1.2.2.2.2.1), (by rw [gi_si_ne (Or.inr (by decide +kernel))]; exact h.1.2.2.2.2.2.1), (by rw [gi_si_ne (Or.inr (by decide +kernel))]; exact h.1.2.2.2.2.2.2.1), (by rw [gi_si_ne (Or.inr (by decide +kernel))]; exact h.1.2.2.2.2.2.2.2.1), (by rw [gi_si_ne (Or.inr (by decide +kernel))]; exact h.1.2.2.2.2.2.2.2.2.1), (by rw [gi_si_ne (Or.inr (by decide +kernel))]; exact h.1.2.2.2.2.2.2.2.2.2.1), (by rw [gi_si_ne (Or.inr (by decide +kernel))]; exact h.1.2.2.2.2.2.2.2.2.2.2.1), (by rw [gi_si_ne (Or.inr (by decide +kernel))]; exact h.1.2.2.2.2.2.2.2.2.2.2.2.1), (by rw [gi_si_ne (Or.inr (by decide +kernel))]; exact h.1.2.2.2.2.2.2.2.2.2.2.2.2.1), (by rw [gi_si_ne (Or.inr (by decide +kernel))]; exact h.1.2.2.2.2.2.2.2.2.2.2.2.2.2.1), (by rw [gi_si_ne (Or.inr (by decide +kernel))]; exact h.1.2.2.2.2.2.2.2.2.2.2.2.2.2.2.1), (by rw [gi_si_ne (Or.inr (by decide +kernel))]; exact h.1.2.2.2.2.2.2.2.2.2.2.2.2.2.2.2.1), (by rw [gi_si_ne (Or.inr (by decide +kernel))]; exact h.1.2.2.2.2.2.2.2.2.2.2.2.2.2.2.2.2.1), (by rw [gi_si_ne (Or.inr (by decide +kernel))]; exact h.1.2.2.2.2.2.2.2.2.2.2.2.2.2.2.2.2.2.1), (by rw [gi_si_ne (Or.inr (by decide +kernel))]; exact h.1.2.2.2.2.2.2.2.2.2.2.2.2.2.2.2.2.2.2.1), (by rw [gi_si_eq]; exact ⟨h1, h2⟩), (by rw [gi_si_ne (Or.inr (by decide +kernel))]; exact h.1.2.2.2.2.2.2.2.2.2.2.2.2.2.2.2.2.2.2.2.2.1), (by rw [gi_si_ne (Or.inr (by decide +kernel))]; exact h.1.2.2.2.2.2.2.2.2.2.2.2.2.2.2.2.2.2.2.2.2.2)⟩, MI1_f h.2.1, FV_si rfl (fun _ => by decide +kernel) h.2.2⟩
theorem MIs_f55 {σ : Sg} (h : MI σ) {v : Int32} (h1 : 0 ≤ v.toInt) (h2 : v.toInt ≤ 8) : MI (si σ 74 55 v) := ⟨⟨(by rw [gi_si_ne (Or.inr (by decide +kernel))]; exact h.1.1), (by rw [gi_si_ne (Or.inr (by decide +kernel))]; exact h.1.2.1), (by rw [gi_si_ne (Or.inr (by decide +kernel))]; exact h.1.2.2.1), (by rw [gi_si_ne (Or.inr (by decide +kernel))]; exact h.1.2.2.2.1), (by rw [gi_si_ne (Or.inr (by decide +kernel))]; exact h.1.2.2.2.2.1), (by rw [gi_si_ne (Or.inr (by decide +kernel))]; exact h.1.2.2.2.2.2.1), (by rw [gi_si_ne (Or.inr (by decide +kernel))]; exact h.1.2.2.2.2.2.2.1), (by rw [gi_si_ne (Or.inr (by decide +kernel))]; exact h.1.2.2.2.2.2.2.2.1), (by rw [gi_si_ne (Or.inr (by decide +kernel))]; exact h.1.2.2.2.2.2.2.2.2.1), (by rw [gi_si_ne (Or.inr (by decide +kernel))]; exact h.1.2.2.2.2.2.2.2.2.2.1), (by rw [gi_si_ne (Or.inr (by decide +kernel))]; exact h.1.2.2.2.2.2.2.2.2.2.2.1), (by rw [gi_si_ne (Or.inr (by decide +kernel))]; exact h.1.2.2.2.2.2.2.2.2.2.2.2.1), (by rw [gi_si_ne (Or.inr (by decide +kernel))]; exact h.1.2.2.2.2.2.2.2.2.2.2.2.2.1), (by rw [gi_si_ne (Or.inr (by decide +kernel))]; exact h.1.2.2.2.2.2.2.2.2.2.2.2.2.2.1), (by rw [gi_si_ne (Or.inr (by decide +kernel))]; exact h.1.2.2.2.2.2.2.2.2.2.2.2.2.2.2.1), (by rw [gi_si_ne (Or.inr (by decide +kernel))]; exact h.1.2.2.2.2.2.2.2.2.2.2.2.2.2.2.2.1), (by rw [gi_si_ne (Or.inr (by decide +kernel))]; exact h.1.2.2.2.2.2.2.2.2.2.2.2.2.2.2.2.2.1), (by rw [gi_si_ne (Or.inr (by decide +kernel))]; exact h.1.2.2.2.2.2.2.2.2.2.2.2.2.2.2.2.2.2.1), (by rw [gi_si_ne (Or.inr (by decide +kernel))]; exact h.1.2.2.2.2.2.2.2.2.2.2.2.2.2.2.2.2.2.2.1), (by rw [gi_si_ne (Or.inr (by decide +kernel))]; exact h.1.2.2.2.2.2.2.2.2.2.2.2.2.2.2.2.2.2.2.2.1), (by rw [gi_si_eq]; exact ⟨h1, h2⟩), (by rw [gi_si_ne (Or.inr (by decide +kernel))]; exact h.1.2.2.2.2.2.2.2.2.2.2.2.2.2.2.2.2.2.2.2.2.2)⟩, MI1_f h.2.1, FV_si rfl (fun _ => by decide +kernel) h.2.2⟩
theorem MIs_f69 {σ : Sg} (h : MI σ) {v : Int32} (h1 : 0 ≤ v.toInt) (h2 : v.toInt ≤ 1000) : MI (si σ 74 69 v) := ⟨⟨(by rw [gi_si_ne (Or.inr (by decide +kernel))]; exact h.1.1), (by rw [gi_si_ne (Or.inr (by decide +kernel))]; exact h.1.2.1), (by rw [gi_si_ne (Or.inr (by decide +kernel))]; exact h.1.2.2.1), (by rw [gi_si_ne (Or.inr (by decide +kernel))]; exact h.1.2.2.2.1), (by rw [gi_si_ne (Or.inr (by decide +kernel))]; exact h.1.2.2.2.2.1), (by rw [gi_si_ne (Or.inr (by decide +kernel))]; exact h.1.2.2.2.2.2.1), (by rw [gi_si_ne (Or.inr (by decide +kernel))]; exact h.1.2.2.2.2.2.2.1), (by rw [gi_si_ne (Or.inr (by decide +kernel))]; exact h.1.2.2.2.2.2.2.2.1), (by rw [gi_si_ne (Or.inr (by decide +kernel))]; exact h.1.2.2.2.2.2.2.2.2.1), (by rw [gi_si_ne (Or.inr (by decide +kernel))]; exact h.1.2.2.2.2.2.2.2.2.2.1), (by rw [gi_si_ne (Or.inr (by decide +kernel))]; exact h.1.2.2.2.2.2.2.2.2.2.2.1), (by rw [gi_si_ne (Or.inr (by decide +kernel))]; exact h.1.2.2.2.2.2.2.2.2.2.2.2.1), (by rw [gi_si_ne (Or.inr (by decide +kernel))]; exact h.1.2.2.2.2.2.2.2.2.2.2.2.2.1), (by rw [gi_si_ne (Or.inr (by decide +kernel))]; exact h.1.2.2.2.2.2.2.2.2.2.2.2.2.2.1), (by rw [gi_si_ne (Or.inr (by decide +kernel))]; exact h.1.2.2.2.2.2.2.2.2.2.2.2.2.2.2.1), (by rw [gi_si_ne (Or.inr (by decide +kernel))]; exact h.1.2.2.2.2.2.2.2.2.2.2.2.2.2.2.2.1), (by rw [gi_si_ne (Or.inr (by decide +kernel))]; exact h.1.2.2.2.2.2.2.2.2.2.2.2.2.2.2.2.2.1), (by rw [gi_si_ne (Or.inr (by decide +kernel))]; exact h.1.2.2.2.2.2.2.2.2.2.2.2.2.2.2.2.2.2.1), (by rw [gi_si_ne (Or.inr (by decide +kernel))]; exact h.1.2.2.2.2.2.2.2.2.2.2.2.2.2.2.2.2.2.2.1), (by rw [gi_si_ne (Or.inr (by decide +kernel))]; exact h.1.2.2.2.2.2.2.2.2.2.2.2.2.2.2.2.2.2.2.2.1), (by rw [gi_si_ne (Or.inr (by decide +kernel))]; exact h.1.2.2.2.2.2.2.2.2.2.2.2.2.2.2.2.2.2.2.2.2.1), (by rw [gi_si_eq]; exact ⟨h1, h2⟩)⟩, MI1_f h.2.1, FV_si rfl (fun _ => by decide +kernel) h.2.2⟩
theorem MIs_fu {σ : Sg} (h : MI σ) {k : Nat} {v : Int32} (hk : k ∉ mfL) : MI (si σ 74 k v) := by
  have e : ∀ j, j ∈ mfL → gi (si σ 74 k v) 74 j = gi σ 74 j := fun j hj => gi_si_ne (Or.inr (fun q => hk (q ▸ hj)))
  refine ⟨?_, MI1_f h.2.1, FV_si rfl (fun _ => ⟨fun e => hk (by subst e; decide), fun e => hk (by subst e; decide), fun e => hk (by subst e; decide)⟩) h.2.2⟩
  unfold MI0
  rw [e 0 (by decide +kernel), e 1 (by decide +kernel), e 2 (by decide +kernel), e 11 (by decide +kernel), e 12 (by decide +kernel), e 13 (by decide +kernel), e 14 (by decide +kernel), e 15 (by decide +kernel), e 24 (by decide +kernel), e 25 (by decide +kernel), e 30 (by decide +kernel), e 33 (by decide +kernel), e 41 (by decide +kernel), e 45 (by decide +kernel), e 46 (by decide +kernel), e 50 (by decide +kernel), e 51 (by decide +kernel), e 52 (by decide +kernel), e 53 (by decide +kernel), e 54 (by decide +kernel), e 55 (by decide +kernel), e 69 (by decide +kernel)]
  exact h.1
theorem MIs_a105 {σ : Sg} (h : MI σ) {k : Nat} {v : Int32} (h1 : 0 ≤ v.toInt) (h2 : v.toInt ≤ 9999) : MI (si σ 105 k v) := ⟨h.1, ⟨(by show bnd (va_up σ.1 105 (upd (σ.1 105) k v) 105) _ _ _; rw [va_up_self]; exact bnd_up (h.2.1.1) h1 h2), (by show bnd (va_up σ.1 105 (upd (σ.1 105) k v) 110) _ _ _; rw [va_up_ne _ _ (by decide +kernel)]; exact h.2.1.2.1), (by show bnd (va_up σ.1 105 (upd (σ.1 105) k v) 116) _ _ _; rw [va_up_ne _ _ (by decide +kernel)]; exact h.2.1.2.2.1), (by show bnd (va_up σ.1 105 (upd (σ.1 105) k v) 117) _ _ _; rw [va_up_ne _ _ (by decide +kernel)]; exact h.2.1.2.2.2.1), (by show bnd (va_up σ.1 105 (upd (σ.1 105) k v) 127) _ _ _; rw [va_up_ne _ _ (by decide +kernel)]; exact h.2.1.2.2.2.2.1), (by show bnd (va_up σ.1 105 (upd (σ.1 105) k v) 129) _ _ _; rw [va_up_ne _ _ (by decide +kernel)]; exact h.2.1.2.2.2.2.2.1), (by show bnd (va_up σ.1 105 (upd (σ.1 105) k v) 134) _ _ _; rw [va_up_ne _ _ (by decide +kernel)]; exact h.2.1.2.2.2.2.2.2.1), (by show bnd (va_up σ.1 105 (upd (σ.1 105) k v) 138) _ _ _; rw [va_up_ne _ _ (by decide +kernel)]; exact h.2.1.2.2.2.2.2.2.2.1), (by show bnd (va_up σ.1 105 (upd (σ.1 105) k v) 139) _ _ _; rw [va_up_ne _ _ (by decide +kernel)]; exact h.2.1.2.2.2.2.2.2.2.2.1), (by show bnd (va_up σ.1 105 (upd (σ.1 105) k v) 142) _ _ _; rw [va_up_ne _ _ (by decide +kernel)]; exact h.2.1.2.2.2.2.2.2.2.2.2.1), (by show bnd (va_up σ.1 105 (upd (σ.1 105) k v) 143) _ _ _; rw [va_up_ne _ _ (by decide +kernel)]; exact h.2.1.2.2.2.2.2.2.2.2.2.2.1), (by show bnd (va_up σ.1 105 (upd (σ.1 105) k v) 158) _ _ _; rw [va_up_ne _ _ (by decide +kernel)]; exact h.2.1.2.2.2.2.2.2.2.2.2.2.2.1), (by show bnd (va_up σ.1 105 (upd (σ.1 105) k v) 162) _ _ _; rw [va_up_ne _ _ (by decide +kernel)]; exact h.2.1.2.2.2.2.2.2.2.2.2.2.2.2.1), (by show bnd (va_up σ.1 105 (upd (σ.1 105) k v) 164) _ _ _; rw [va_up_ne _ _ (by decide +kernel)]; exact h.2.1.2.2.2.2.2.2.2.2.2.2.2.2.2.1), (by show bnd (va_up σ.1 105 (upd (σ.1 105) k v) 165) _ _ _; rw [va_up_ne _ _ (by decide +kernel)]; exact h.2.1.2.2.2.2.2.2.2.2.2.2.2.2.2.2.1), (by show bnd (va_up σ.1 105 (upd (σ.1 105) k v) 171) _ _ _; rw [va_up_ne _ _ (by decide +kernel)]; exact h.2.1.2.2.2.2.2.2.2.2.2.2.2.2.2.2.2.1), (by show bnd (va_up σ.1 105 (upd (σ.1 105) k v) 172) _ _ _; rw [va_up_ne _ _ (by decide +kernel)]; exact h.2.1.2.2.2.2.2.2.2.2.2.2.2.2.2.2.2.2)⟩, FV_si rfl (fun e => absurd e (by decide +kernel)) h.2.2⟩
theorem MIs_a110 {σ : Sg} (h : MI σ) {k : Nat} {v : Int32} (h1 : 0 ≤ v.toInt) (h2 : v.toInt ≤ 5) : MI (si σ 110 k v) := ⟨h.1, ⟨(by show bnd (va_up σ.1 110 (upd (σ.1 110) k v) 105) _ _ _; rw [va_up_ne _ _ (by decide +kernel)]; exact h.2.1.1), (by show bnd (va_up σ.1 110 (upd (σ.1 110) k v) 110) _ _ _; rw [va_up_self]; exact bnd_up (h.2.1.2.1) h1 h2), (by show bnd (va_up σ.1 110 (upd (σ.1 110) k v) 116) _ _ _; rw [va_up_ne _ _ (by decide +kernel)]; exact h.2.1.2.2.1), (by show bnd (va_up σ.1 110 (upd (σ.1 110) k v) 117) _ _ _; rw [va_up_ne _ _ (by decide +kernel)]; exact h.2.1.2.2.2.1), (by show bnd (va_up σ.1 110 (upd (σ.1 110) k v) 127) _ _ _; rw [va_up_ne _ _ (by decide +kernel)]; exact h.2.1.2.2.2.2.1), (by show bnd (va_up σ.1 110 (upd (σ.1 110) k v) 129) _ _ _; rw [va_up_ne _ _ (by decide +kernel)]; exact h.2.1.2.2.2.2.2.1), (by show bnd (va_up σ.1 110 (upd (σ.1 110) k v) 134) _ _ _; rw [va_up_ne _ _ (by decide +kernel)]; exact h.2.1.2.2.2.2.2.2.1), (by show bnd (va_up σ.1 110 (upd (σ.1 110) k v) 138) _ _ _; rw [va_up_ne _ _ (by decide +kernel)]; exact h.2.1.2.2.2.2.2.2.2.1), (by show bnd (va_up σ.1 110 (upd (σ.1 110) k v) 139) _ _ _; rw [va_up_ne _ _ (by decide +kernel)]; exact h.2.1.2.2.2.2.2.2.2.2.1), (by show bnd (va_up σ.1 110 (upd (σ.1 110) k v) 142) _ _ _; rw [va_up_ne _ _ (by decide +kernel)]; exact h.2.1.2.2.2.2.2.2.2.2.2.1), (by show bnd (va_up σ.1 110 (upd (σ.1 110) k v) 143) _ _ _; rw [va_up_ne _ _ (by decide +kernel)]; exact h.2.1.2.2.2.2.2.2.2.2.2.2.1), (by show bnd (va_up σ.1 110 (upd (σ.1 110) k v) 158) _ _ _; rw [va_up_ne _ _ (by decide +kernel)]; exact h.2.1.2.2.2.2.2.2.2.2.2.2.2.1), (by show bnd (va_up σ.1 110 (upd (σ.1 110) k v) 162) _ _ _; rw [va_up_ne _ _ (by decide +kernel)]; exact h.2.1.2.2.2.2.2.2.2.2.2.2.2.2.1), (by show bnd (va_up σ.1 110 (upd (σ.1 110) k v) 164) _ _ _; rw [va_up_ne _ _ (by decide +kernel)]; exact h.2.1.2.2.2.2.2.2.2.2.2.2.2.2.2.1), (by show bnd (va_up σ.1 110 (upd (σ.1 110) k v) 165) _ _ _; rw [va_up_ne _ _ (by decide +kernel)]; exact h.2.1.2.2.2.2.2.2.2.2.2.2.2.2.2.2.1), (by show bnd (va_up σ.1 110 (upd (σ.1 110) k v) 171) _ _ _; rw [va_up_ne _ _ (by decide +kernel)]; exact h.2.1.2.2.2.2.2.2.2.2.2.2.2.2.2.2.2.1), (by show bnd (va_up σ.1 110 (upd (σ.1 110) k v) 172) _ _ _; rw [va_up_ne _ _ (by decide +kernel)]; exact h.2.1.2.2.2.2.2.2.2.2.2.2.2.2.2.2.2.2)⟩, FV_si rfl (fun e => absurd e (by decide +kernel)) h.2.2⟩
theorem MIs_a116 {σ : Sg} (h : MI σ) {k : Nat} {v : Int32} (h1 : 0 ≤ v.toInt) (h2 : v.toInt ≤ 127) : MI (si σ 116 k v) := ⟨h.1, ⟨(by show bnd (va_up σ.1 116 (upd (σ.1 116) k v) 105) _ _ _; rw [va_up_ne _ _ (by decide +kernel)]; exact h.2.1.1), (by show bnd (va_up σ.1 116 (upd (σ.1 116) k v) 110) _ _ _; rw [va_up_ne _ _ (by decide +kernel)]; exact h.2.1.2.1), (by show bnd (va_up σ.1 116 (upd (σ.1 116) k v) 116) _ _ _; rw [va_up_self]; exact bnd_up (h.2.1.2.2.1) h1 h2), (by show bnd (va_up σ.1 116 (upd (σ.1 116) k v) 117) _ _ _; rw [va_up_ne _ _ (by decide +kernel)]; exact h.2.1.2.2.2.1), (by show bnd (va_up σ.1 116 (upd (σ.1 116) k v) 127) _ _ _; rw [va_up_ne _ _ (by decide +kernel)]; exact h.2.1.2.2.2.2.1), (by show bnd (va_up σ.1 116 (upd (σ.1 116) k v) 129) _ _ _; rw [va_up_ne _ _ (by decide +kernel)]; exact h.2.1.2.2.2.2.2.1), (by show bnd (va_up σ.1 116 (upd (σ.1 116) k v) 134) _ _ _; rw [va_up_ne _ _ (by decide +kernel)]; exact h.2.1.2.2.2.2.2.2.1), (by show bnd (va_up σ.1 116 (upd (σ.1 116) k v) 138) _ _ _; rw [va_up_ne _ _ (by decide +kernel)]; exact h.2.1.2.2.2.2.2.2.2.1), (by show bnd (va_up σ.1 116 (upd (σ.1 116) k v) 139) _ _ _; rw [va_up_ne _ _ (by decide +kernel)]; exact h.2.1.2.2.2.2.2.2.2.2.1), (by show bnd (va_up σ.1 116 (upd (σ.1 116) k v) 142) _ _ _; rw [va_up_ne _ _ (by decide +kernel)]; exact h.2.1.2.2.2.2.2.2.2.2.2.1), (by show bnd (va_up σ.1 116 (upd (σ.1 116) k v) 143) _ _ _; rw [va_up_ne _ _ (by decide +kernel)]; exact h.2.1.2.2.2.2.2.2.2.2.2.2.1), (by show bnd (va_up σ.1 116 (upd (σ.1 116) k v) 158) _ _ _; rw [va_up_ne _ _ (by decide +kernel)]; exact h.2.1.2.2.2.2.2.2.2.2.2.2.2.1), (by show bnd (va_up σ.1 116 (upd (σ.1 116) k v) 162) _ _ _; rw [va_up_ne _ _ (by decide +kernel)]; exact h.2.1.2.2.2.2.2.2.2.2.2.2.2.2.1), (by show bnd (va_up σ.1 116 (upd (σ.1 116) k v) 164) _ _ _; rw [va_up_ne _ _ (by decide +kernel)]; exact h.2.1.2.2.2.2.2.2.2.2.2.2.2.2.2.1), (by show bnd (va_up σ.1 116 (upd (σ.1 116) k v) 165) _ _ _; rw [va_up_ne _ _ (by decide +kernel)]; exact h.2.1.2.2.2.2.2.2.2.2.2.2.2.2.2.2.1), (by show bnd (va_up σ.1 116 (upd (σ.1 116) k v) 171) _ _ _; rw [va_up_ne _ _ (by decide +kernel)]; exact h.2.1.2.2.2.2.2.2.2.2.2.2.2.2.2.2.2.1), (by show bnd (va_up σ.1 116 (upd (σ.1 116) k v) 172) _ _ _; rw [va_up_ne _ _ (by decide +kernel)]; exact h.2.1.2.2.2.2.2.2.2.2.2.2.2.2.2.2.2.2)⟩, FV_si rfl (fun e => absurd e (by decide +kernel)) h.2.2⟩
theorem MIs_a117 {σ : Sg} (h : MI σ) {k : Nat} {v : Int32} (h1 : 0 ≤ v.toInt) (h2 : v.toInt ≤ 10) (hF : FV (si σ 117 k v)) : MI (si σ 117 k v) := ⟨h.1, ⟨(by show bnd (va_up σ.1 117 (upd (σ.1 117) k v) 105) _ _ _; rw [va_up_ne _ _ (by decide +kernel)]; exact h.2.1.1), (by show bnd (va_up σ.1 117 (upd (σ.1 117) k v) 110) _ _ _; rw [va_up_ne _ _ (by decide +kernel)]; exact h.2.1.2.1), (by show bnd (va_up σ.1 117 (upd (σ.1 117) k v) 116) _ _ _; rw [va_up_ne _ _ (by decide +kernel)]; exact h.2.1.2.2.1), (by show bnd (va_up σ.1 117 (upd (σ.1 117) k v) 117) _ _ _; rw [va_up_self]; exact bnd_up (h.2.1.2.2.2.1) h1 h2), (by show bnd (va_up σ.1 117 (upd (σ.1 117) k v) 127) _ _ _; rw [va_up_ne _ _ (by decide +kernel)]; exact h.2.1.2.2.2.2.1), (by show bnd (va_up σ.1 117 (upd (σ.1 117) k v) 129) _ _ _; rw [va_up_ne _ _ (by decide +kernel)]; exact h.2.1.2.2.2.2.2.1), (by show bnd (va_up σ.1 117 (upd (σ.1 117) k v) 134) _ _ _; rw [va_up_ne _ _ (by decide +kernel)]; exact h.2.1.2.2.2.2.2.2.1), (by show bnd (va_up σ.1 117 (upd (σ.1 117) k v) 138) _ _ _; rw [va_up_ne _ _ (by decide +kernel)]; exact h.2.1.2.2.2.2.2.2.2.1), (by show bnd (va_up σ.1 117 (upd (σ.1 117) k v) 139) _ _ _; rw [va_up_ne _ _ (by decide +kernel)]; exact h.2.1.2.2.2.2.2.2.2.2.1), (by show bnd (va_up σ.1 117 (upd (σ.1 117) k v) 142) _ _ _; rw [va_up_ne _ _ (by decide +kernel)]; exact h.2.1.2.2.2.2.2.2.2.2.2.1), (by show bnd (va_up σ.1 117 (upd (σ.1 117) k v) 143) _ _ _; rw [va_up_ne _ _ (by decide +kernel)]; exact h.2.1.2.2.2.2.2.2.2.2.2.2.1), (by show bnd (va_up σ.1 117 (upd (σ.1 117) k v) 158) _ _ _; rw [va_up_ne _ _ (by decide +kernel)]; exact h.2.1.2.2.2.2.2.2.2.2.2.2.2.1), (by show bnd (va_up σ.1 117 (upd (σ.1 117) k v) 162) _ _ _; rw [va_up_ne _ _ (by decide +kernel)]; exact h.2.1.2.2.2.2.2.2.2.2.2.2.2.2.1), (by show bnd (va_up σ.1 117 (upd (σ.1 117) k v) 164) _ _ _; rw [va_up_ne _ _ (by decide +kernel)]; exact h.2.1.2.2.2.2.2.2.2.2.2.2.2.2.2.1), (by show bnd (va_up σ.1 117 (upd (σ.1 117) k v) 165) _ _ _; rw [va_up_ne _ _ (by decide +kernel)]; exact h.2.1.2.2.2.2.2.2.2.2.2.2.2.2.2.2.1), (by show bnd (va_up σ.1 117 (upd (σ.1 117) k v) 171) _ _ _; rw [va_up_ne _ _ (by decide +kernel)]; exact h.2.1.2.2.2.2.2.2.2.2.2.2.2.2.2.2.2.1), (by show bnd (va_up σ.1 117 (upd (σ.1 117) k v) 172) _ _ _; rw [va_up_ne _ _ (by decide +kernel)]; exact h.2.1.2.2.2.2.2.2.2.2.2.2.2.2.2.2.2.2)⟩, hF⟩
theorem MIs_a129 {σ : Sg} (h : MI σ) {k : Nat} {v : Int32} (h1 : 0 ≤ v.toInt) (h2 : v.toInt ≤ 1) : MI (si σ 129 k v) := ⟨h.1, ⟨(by show bnd (va_up σ.1 129 (upd (σ.1 129) k v) 105) _ _ _; rw [va_up_ne _ _ (by decide +kernel)]; exact h.2.1.1), (by show bnd (va_up σ.1 129 (upd (σ.1 129) k v) 110) _ _ _; rw [va_up_ne _ _ (by decide +kernel)]; exact h.2.1.2.1), (by show bnd (va_up σ.1 129 (upd (σ.1 129) k v) 116) _ _ _; rw [va_up_ne _ _ (by decide +kernel)]; exact h.2.1.2.2.1), (by show bnd (va_up σ.1 129 (upd (σ.1 129) k v) 117) _ _ _; rw [va_up_ne _ _ (by decide +kernel)]; exact h.2.1.2.2.2.1), (by show bnd (va_up σ.1 129 (upd (σ.1 129) k v) 127) _ _ _; rw [va_up_ne _ _ (by decide +kernel)]; exact h.2.1.2.2.2.2.1), (by show bnd (va_up σ.1 129 (upd (σ.1 129) k v) 129) _ _ _; rw [va_up_self]; exact bnd_up (h.2.1.2.2.2.2.2.1) h1 h2), (by show bnd (va_up σ.1 129 (upd (σ.1 129) k v) 134) _ _ _; rw [va_up_ne _ _ (by decide +kernel)]; exact h.2.1.2.2.2.2.2.2.1), (by show bnd (va_up σ.1 129 (upd (σ.1 129) k v) 138) _ _ _; rw [va_up_ne _ _ (by decide +kernel)]; exact h.2.1.2.2.2.2.2.2.2.1), (by show bnd (va_up σ.1 129 (upd (σ.1 129) k v) 139) _ _ _; rw [va_up_ne _ _ (by decide +kernel)]; exact h.2.1.2.2.2.2.2.2.2.2.1), (by show bnd (va_up σ.1 129 (upd (σ.1 129) k v) 142) _ _ _; rw [va_up_ne _ _ (by decide +kernel)]; exact h.2.1.2.2.2.2.2.2.2.2.2.1), (by show bnd (va_up σ.1 129 (upd (σ.1 129) k v) 143) _ _ _; rw [va_up_ne _ _ (by decide +kernel)]; exact h.2.1.2.2.2.2.2.2.2.2.2.2.1), (by show bnd (va_up σ.1 129 (upd (σ.1 129) k v) 158) _ _ _; rw [va_up_ne _ _ (by decide +kernel)]; exact h.2.1.2.2.2.2.2.2.2.2.2.2.2.1), (by show bnd (va_up σ.1 129 (upd (σ.1 129) k v) 162) _ _ _; rw [va_up_ne _ _ (by decide +kernel)]; exact h.2.1.2.2.2.2.2.2.2.2.2.2.2.2.1), (by show bnd (va_up σ.1 129 (upd (σ.1 129) k v) 164) _ _ _; rw [va_up_ne _ _ (by decide +kernel)]; exact h.2.1.2.2.2.2.2.2.2.2.2.2.2.2.2.1), (by show bnd (va_up σ.1 129 (upd (σ.1 129) k v) 165) _ _ _; rw [va_up_ne _ _ (by decide +kernel)]; exact h.2.1.2.2.2.2.2.2.2.2.2.2.2.2.2.2.1), (by show bnd (va_up σ.1 129 (upd (σ.1 129) k v) 171) _ _ _; rw [va_up_ne _ _ (by decide +kernel)]; exact h.2.1.2.2.2.2.2.2.2.2.2.2.2.2.2.2.2.1), (by show bnd (va_up σ.1 129 (upd (σ.1 129) k v) 172) _ _ _; rw [va_up_ne _ _ (by decide +kernel)]; exact h.2.1.2.2.2.2.2.2.2.2.2.2.2.2.2.2.2.2)⟩, FV_si rfl (fun e => absurd e (by decide +kernel)) h.2.2⟩
theorem MIs_a134 {σ : Sg} (h : MI σ) {k : Nat} {v : Int32} (h1 : 0 ≤ v.toInt) (h2 : v.toInt ≤ 9999) : MI (si σ 134 k v) := ⟨h.1, ⟨(by show bnd (va_up σ.1 134 (upd (σ.1 134) k v) 105) _ _ _; rw [va_up_ne _ _ (by decide +kernel)]; exact h.2.1.1), (by show bnd (va_up σ.1 134 (upd (σ.1 134) k v) 110) _ _ _; rw [va_up_ne _ _ (by decide +kernel)]; exact h.2.1.2.1), (by show bnd (va_up σ.1 134 (upd (σ.1 134) k v) 116) _ _ _; rw [va_up_ne _ _ (by decide +kernel)]; exact h.2.1.2.2.1), (by show bnd (va_up σ.1 134 (upd (σ.1 134) k v) 117) _ _ _; rw [va_up_ne _ _ (by decide +kernel)]; exact h.2.1.2.2.2.1), (by show bnd (va_up σ.1 134 (upd (σ.1 134) k v) 127) _ _ _; rw [va_up_ne _ _ (by decide +kernel)]; exact h.2.1.2.2.2.2.1), (by show bnd (va_up σ.1 134 (upd (σ.1 134) k v) 129) _ _ _; rw [va_up_ne _ _ (by decide +kernel)]; exact h.2.1.2.2.2.2.2.1), (by show bnd (va_up σ.1 134 (upd (σ.1 134) k v) 134) _ _ _; rw [va_up_self]; exact bnd_up (h.2.1.2.2.2.2.2.2.1) h1 h2), (by show bnd (va_up σ.1 134 (upd (σ.1 134) k v) 138) _ _ _; rw [va_up_ne _ _ (by decide +kernel)]; exact h.2.1.2.2.2.2.2.2.2.1), (by show bnd (va_up σ.1 134 (upd (σ.1 134) k v) 139) _ _ _; rw [va_up_ne _ _ (by decide +kernel)]; exact h.2.1.2.2.2.2.2.2.2.2.1), (by show bnd (va_up σ.1 134 (upd (σ.1 134) k v) 142) _ _ _; rw [va_up_ne _ _ (by decide +kernel)]; exact h.2.1.2.2.2.2.2.2.2.2.2.1), (by show bnd (va_up σ.1 134 (upd (σ.1 134) k v) 143) _ _ _; rw [va_up_ne _ _ (by decide +kernel)]; exact h.2.1.2.2.2.2.2.2.2.2.2.2.1), (by show bnd (va_up σ.1 134 (upd (σ.1 134) k v) 158) _ _ _; rw [va_up_ne _ _ (by decide +kernel)]; exact h.2.1.2.2.2.2.2.2.2.2.2.2.2.1), (by show bnd (va_up σ.1 134 (upd (σ.1 134) k v) 162) _ _ _; rw [va_up_ne _ _ (by decide +kernel)]; exact h.2.1.2.2.2.2.2.2.2.2.2.2.2.2.1), (by show bnd (va_up σ.1 134 (upd (σ.1 134) k v) 164) _ _ _; rw [va_up_ne _ _ (by decide +kernel)]; exact h.2.1.2.2.2.2.2.2.2.2.2.2.2.2.2.1), (by show bnd (va_up σ.1 134 (upd (σ.1 134) k v) 165) _ _ _; rw [va_up_ne _ _ (by decide +kernel)]; exact h.2.1.2.2.2.2.2.2.2.2.2.2.2.2.2.2.1), (by show bnd (va_up σ.1 134 (upd (σ.1 134) k v) 171) _ _ _; rw [va_up_ne _ _ (by decide +kernel)]; exact h.2.1.2.2.2.2.2.2.2.2.2.2.2.2.2.2.2.1), (by show bnd (va_up σ.1 134 (upd (σ.1 134) k v) 172) _ _ _; rw [va_up_ne _ _ (by decide +kernel)]; exact h.2.1.2.2.2.2.2.2.2.2.2.2.2.2.2.2.2.2)⟩, FV_si rfl (fun e => absurd e (by decide +kernel)) h.2.2⟩
theorem MIs_a138 {σ : Sg} (h : MI σ) {k : Nat} {v : Int32} (h1 : 0 ≤ v.toInt) (h2 : v.toInt ≤ 5) : MI (si σ 138 k v) := ⟨h.1, ⟨(by show bnd (va_up σ.1 138 (upd (σ.1 138) k v) 105) _ _ _; rw [va_up_ne _ _ (by decide +kernel)]; exact h.2.1.1), (by show bnd (va_up σ.1 138 (upd (σ.1 138) k v) 110) _ _ _; rw [va_up_ne _ _ (by decide +kernel)]; exact h.2.1.2.1), (by show bnd (va_up σ.1 138 (upd (σ.1 138) k v) 116) _ _ _; rw [va_up_ne _ _ (by decide +kernel)]; exact h.2.1.2.2.1), (by show bnd (va_up σ.1 138 (upd (σ.1 138) k v) 117) _ _ _; rw [va_up_ne _ _ (by decide +kernel)]; exact h.2.1.2.2.2.1), (by show bnd (va_up σ.1 138 (upd (σ.1 138) k v) 127) _ _ _; rw [va_up_ne _ _ (by decide +kernel)]; exact h.2.1.2.2.2.2.1), (by show bnd (va_up σ.1 138 (upd (σ.1 138) k v) 129) _ _ _; rw [va_up_ne _ _ (by decide +kernel)]; exact h.2.1.2.2.2.2.2.1), (by show bnd (va_up σ.1 138 (upd (σ.1 138) k v) 134) _ _ _; rw [va_up_ne _ _ (by decide +kernel)]; exact h.2.1.2.2.2.2.2.2.1), (by show bnd (va_up σ.1 138 (upd (σ.1 138) k v) 138) _ _ _; rw [va_up_self]; exact bnd_up (h.2.1.2.2.2.2.2.2.2.1) h1 h2), (by show bnd (va_up σ.1 138 (upd (σ.1 138) k v) 139) _ _ _; rw [va_up_ne _ _ (by decide +kernel)]; exact h.2.1.2.2.2.2.2.2.2.2.1), (by show bnd (va_up σ.1 138 (upd (σ.1 138) k v) 142) _ _ _; rw [va_up_ne _ _ (by decide +kernel)]; exact h.2.1.2.2.2.2.2.2.2.2.2.1), (by show bnd (va_up σ.1 138 (upd (σ.1 138) k v) 143) _ _ _; rw [va_up_ne _ _ (by decide +kernel)]; exact h.2.1.2.2.2.2.2.2.2.2.2.2.1), (by show bnd (va_up σ.1 138 (upd (σ.1 138) k v) 158) _ _ _; rw [va_up_ne _ _ (by decide +kernel)]; exact h.2.1.2.2.2.2.2.2.2.2.2.2.2.1), (by show bnd (va_up σ.1 138 (upd (σ.1 138) k v) 162) _ _ _; rw [va_up_ne _ _ (by decide +kernel)]; exact h.2.1.2.2.2.2.2.2.2.2.2.2.2.2.1), (by show bnd (va_up σ.1 138 (upd (σ.1 138) k v) 164) _ _ _; rw [va_up_ne _ _ (by decide +kernel)]; exact h.2.1.2.2.2.2.2.2.2.2.2.2.2.2.2.1), (by show bnd (va_up σ.1 138 (upd (σ.1 138) k v) 165) _ _ _; rw [va_up_ne _ _ (by decide +kernel)]; exact h.2.1.2.2.2.2.2.2.2.2.2.2.2.2.2.2.1), (by show bnd (va_up σ.1 138 (upd (σ.1 138) k v) 171) _ _ _; rw [va_up_ne _ _ (by decide +kernel)]; exact h.2.1.2.2.2.2.2.2.2.2.2.2.2.2.2.2.2.1), (by show bnd (va_up σ.1 138 (upd (σ.1 138) k v) 172) _ _ _; rw [va_up_ne _ _ (by decide +kernel)]; exact h.2.1.2.2.2.2.2.2.2.2.2.2.2.2.2.2.2.2)⟩, FV_si rfl (fun e => absurd e (by decide +kernel)) h.2.2⟩
theorem MIs_a139 {σ : Sg} (h : MI σ) {k : Nat} {v : Int32} (h1 : 0 ≤ v.toInt) (h2 : v.toInt ≤ 5) : MI (si σ 139 k v) := ⟨h.1, ⟨(by show bnd (va_up σ.1 139 (upd (σ.1 139) k v) 105) _ _ _; rw [va_up_ne _ _ (by decide +kernel)]; exact h.2.1.1), (by show bnd (va_up σ.1 139 (upd (σ.1 139) k v) 110) _ _ _; rw [va_up_ne _ _ (by decide +kernel)]; exact h.2.1.2.1), (by show bnd (va_up σ.1 139 (upd (σ.1 139) k v) 116) _ _ _; rw [va_up_ne _ _ (by decide +kernel)]; exact h.2.1.2.2.1), (by show bnd (va_up σ.1 139 (upd (σ.1 139) k v) 117) _ _ _; rw [va_up_ne _ _ (by decide +kernel)]; exact h.2.1.2.2.2.1), (by show bnd (va_up σ.1 139 (upd (σ.1 139) k v) 127) _ _ _; rw [va_up_ne _ _ (by decide +kernel)]; exact h.2.1.2.2.2.2.1), (by show bnd (va_up σ.1 139 (upd (σ.1 139) k v) 129) _ _ _; rw [va_up_ne _ _ (by decide +kernel)]; exact h.2.1.2.2.2.2.2.1), (by show bnd (va_up σ.1 139 (upd (σ.1 139) k v) 134) _ _ _; rw [va_up_ne _ _ (by decide +kernel)]; exact h.2.1.2.2.2.2.2.2.1), (by show bnd (va_up σ.1 139 (upd (σ.1 139) k v) 138) _ _ _; rw [va_up_ne _ _ (by decide +kernel)]; exact h.2.1.2.2.2.2.2.2.2.1), (by show bnd (va_up σ.1 139 (upd (σ.1 139) k v) 139) _ _ _; rw [va_up_self]; exact bnd_up (h.2.1.2.2.2.2.2.2.2.2.1) h1 h2), (by show bnd (va_up σ.1 139 (upd (σ.1 139) k v) 142) _ _ _; rw [va_up_ne _ _ (by decide +kernel)]; exact h.2.1.2.2.2.2.2.2.2.2.2.1), (by show bnd (va_up σ.1 139 (upd (σ.1 139) k v) 143) _ _ _; rw [va_up_ne _ _ (by decide +kernel)]; exact h.2.1.2.2.2.2.2.2.2.2.2.2.1), (by show bnd (va_up σ.1 139 (upd (σ.1 139) k v) 158) _ _ _; rw [va_up_ne _ _ (by decide +kernel)]; exact h.2.1.2.2.2.2.2.2.2.2.2.2.2.1), (by show bnd (va_up σ.1 139 (upd (σ.1 139) k v) 162) _ _ _; rw [va_up_ne _ _ (by decide +kernel)]; exact h.2.1.2.2.2.2.2.2.2.2.2.2.2.2.1), (by show bnd (va_up σ.1 139 (upd (σ.1 139) k v) 164) _ _ _; rw [va_up_ne _ _ (by decide +kernel)]; exact h.2.1.2.2.2.2.2.2.2.2.2.2.2.2.2.1), (by show bnd (va_up σ.1 139 (upd (σ.1 139) k v) 165) _ _ _; rw [va_up_ne _ _ (by decide +kernel)]; exact h.2.1.2.2.2.2.2.2.2.2.2.2.2.2.2.2.1), (by show bnd (va_up σ.1 139 (upd (σ.1 139) k v) 171) _ _ _; rw [va_up_ne _ _ (by decide +kernel)]; exact h.2.1.2.2.2.2.2.2.2.2.2.2.2.2.2.2.2.1), (by show bnd (va_up σ.1 139 (upd (σ.1 139) k v) 172) _ _ _; rw [va_up_ne _ _ (by decide +kernel)]; exact h.2.1.2.2.2.2.2.2.2.2.2.2.2.2.2.2.2.2)⟩, FV_si rfl (fun e => absurd e (by decide +kernel)) h.2.2⟩
theorem MIs_a142 {σ : Sg} (h : MI σ) {k : Nat} {v : Int32} (h1 : 0 ≤ v.toInt) (h2 : v.toInt ≤ 5) : MI (si σ 142 k v) := ⟨h.1, ⟨(by show bnd (va_up σ.1 142 (upd (σ.1 142) k v) 105) _ _ _; rw [va_up_ne _ _ (by decide +kernel)]; exact h.2.1.1), (by show bnd (va_up σ.1 142 (upd (σ.1 142) k v) 110) _ _ _; rw [va_up_ne _ _ (by decide +kernel)]; exact h.2.1.2.1), (by show bnd (va_up σ.1 142 (upd (σ.1 142) k v) 116) _ _ _; rw [va_up_ne _ _ (by decide +kernel)]; exact h.2.1.2.2.1), (by show bnd (va_up σ.1 142 (upd (σ.1 142) k v) 117) _ _ _; rw [va_up_ne _ _ (by decide +kernel)]; exact h.2.1.2.2.2.1), (by show bnd (va_up σ.1 142 (upd (σ.1 142) k v) 127) _ _ _; rw [va_up_ne _ _ (by decide +kernel)]; exact h.2.1.2.2.2.2.1), (by show bnd (va_up σ.1 142 (upd (σ.1 142) k v) 129) _ _ _; rw [va_up_ne _ _ (by decide +kernel)]; exact h.2.1.2.2.2.2.2.1), (by show bnd (va_up σ.1 142 (upd (σ.1 142) k v) 134) _ _ _; rw [va_up_ne _ _ (by decide +kernel)]; exact h.2.1.2.2.2.2.2.2.1), (by show bnd (va_up σ.1 142 (upd (σ.1 142) k v) 138) _ _ _; rw [va_up_ne _ _ (by decide +kernel)]; exact h.2.1.2.2.2.2.2.2.2.1), (by show bnd (va_up σ.1 142 (upd (σ.1 142) k v) 139) _ _ _; rw [va_up_ne _ _ (by decide +kernel)]; exact h.2.1.2.2.2.2.2.2.2.2.1), (by show bnd (va_up σ.1 142 (upd (σ.1 142) k v) 142) _ _ _; rw [va_up_self]; exact bnd_up (h.2.1.2.2.2.2.2.2.2.2.2.1) h1 h2), (by show bnd (va_up σ.1 142 (upd (σ.1 142) k v) 143) _ _ _; rw [va_up_ne _ _ (by decide +kernel)]; exact h.2.1.2.2.2.2.2.2.2.2.2.2.1), (by show bnd (va_up σ.1 142 (upd (σ.1 142) k v) 158) _ _ _; rw [va_up_ne _ _ (by decide +kernel)]; exact h.2.1.2.2.2.2.2.2.2.2.2.2.2.1), (by show bnd (va_up σ.1 142 (upd (σ.1 142) k v) 162) _ _ _; rw [va_up_ne _ _ (by decide +kernel)]; exact h.2.1.2.2.2.2.2.2.2.2.2.2.2.2.1), (by show bnd (va_up σ.1 142 (upd (σ.1 142) k v) 164) _ _ _; rw [va_up_ne _ _ (by decide +kernel)]; exact h.2.1.2.2.2.2.2.2.2.2.2.2.2.2.2.1), (by show bnd (va_up σ.1 142 (upd (σ.1 142) k v) 165) _ _ _; rw [va_up_ne _ _ (by decide +kernel)]; exact h.2.1.2.2.2.2.2.2.2.2.2.2.2.2.2.2.1), (by show bnd (va_up σ.1 142 (upd (σ.1 142) k v) 171) _ _ _; rw [va_up_ne _ _ (by decide +kernel)]; exact h.2.1.2.2.2.2.2.2.2.2.2.2.2.2.2.2.2.1), (by show bnd (va_up σ.1 142 (upd (σ.1 142) k v) 172) _ _ _; rw [va_up_ne _ _ (by decide +kernel)]; exact h.2.1.2.2.2.2.2.2.2.2.2.2.2.2.2.2.2.2)⟩, FV_si rfl (fun e => absurd e (by decide +kernel)) h.2.2⟩
theorem MIs_a143 {σ : Sg} (h : MI σ) {k : Nat} {v : Int32} (h1 : 0 ≤ v.toInt) (h2 : v.toInt ≤ 30) : MI (si σ 143 k v) := ⟨h.1, ⟨(by show bnd (va_up σ.1 143 (upd (σ.1 143) k v) 105) _ _ _; rw [va_up_ne _ _ (by decide +kernel)]; exact h.2.1.1), (by show bnd (va_up σ.1 143 (upd (σ.1 143) k v) 110) _ _ _; rw [va_up_ne _ _ (by decide +kernel)]; exact h.2.1.2.1), (by show bnd (va_up σ.1 143 (upd (σ.1 143) k v) 116) _ _ _; rw [va_up_ne _ _ (by decide +kernel)]; exact h.2.1.2.2.1), (by show bnd (va_up σ.1 143 (upd (σ.1 143) k v) 117) _ _ _; rw [va_up_ne _ _ (by decide +kernel)]; exact h.2.1.2.2.2.1), (by show bnd (va_up σ.1 143 (upd (σ.1 143) k v) 127) _ _ _; rw [va_up_ne _ _ (by decide +kernel)]; exact h.2.1.2.2.2.2.1), (by show bnd (va_up σ.1 143 (upd (σ.1 143) k v) 129) _ _ _; rw [va_up_ne _ _ (by decide +kernel)]; exact h.2.1.2.2.2.2.2.1), (by show bnd (va_up σ.1 143 (upd (σ.1 143) k v) 134) _ _ _; rw [va_up_ne _ _ (by decide +kernel)]; exact h.2.1.2.2.2.2.2.2.1), (by show bnd (va_up σ.1 143 (upd (σ.1 143) k v) 138) _ _ _; rw [va_up_ne _ _ (by decide +kernel)]; exact h.2.1.2.2.2.2.2.2.2.1), (by show bnd (va_up σ.1 143 (upd (σ.1 143) k v) 139) _ _ _; rw [va_up_ne _ _ (by decide +kernel)]; exact h.2.1.2.2.2.2.2.2.2.2.1), (by show bnd (va_up σ.1 143 (upd (σ.1 143) k v) 142) _ _ _; rw [va_up_ne _ _ (by decide +kernel)]; exact h.2.1.2.2.2.2.2.2.2.2.2.1), (by show bnd (va_up σ.1 143 (upd (σ.1 143) k v) 143) _ _ _; rw [va_up_self]; exact bnd_up (h.2.1.2.2.2.2.2.2.2.2.2.2.1) h1 h2), (by show bnd (va_up σ.1 143 (upd (σ.1 143) k v) 158) _ _ _; rw [va_up_ne _ _ (by decide +kernel)]; exact h.2.1.2.2.2.2.2.2.2.2.2.2.2.1), (by show bnd (va_up σ.1 143 (upd (σ.1 143) k v) 162) _ _ _; rw [va_up_ne _ _ (by decide +kernel)]; exact h.2.1.2.2.2.2.2.2.2.2.2.2.2.2.1), (by show bnd (va_up σ.1 143 (upd (σ.1 143) k v) 164) _ _ _; rw [va_up_ne _ _ (by decide +kernel)]; exact h.2.1.2.2.2.2.2.2.2.2.2.2.2.2.2.1), (by show bnd (va_up σ.1 143 (upd (σ.1 143) k v) 165) _ _ _; rw [va_up_ne _ _ (by decide +kernel)]; exact h.2.1.2.2.2.2.2.2.2.2.2.2.2.2.2.2.1), (by show bnd (va_up σ.1 143 (upd (σ.1 143) k v) 171) _ _ _; rw [va_up_ne _ _ (by decide +kernel)]; exact h.2.1.2.2.2.2.2.2.2.2.2.2.2.2.2.2.2.1), (by show bnd (va_up σ.1 143 (upd (σ.1 143) k v) 172) _ _ _; rw [va_up_ne _ _ (by decide +kernel)]; exact h.2.1.2.2.2.2.2.2.2.2.2.2.2.2.2.2.2.2)⟩, FV_si rfl (fun e => absurd e (by decide +kernel)) h.2.2⟩
theorem MIs_a158 {σ : Sg} (h : MI σ) {k : Nat} {v : Int32} (h1 : 0 ≤ v.toInt) (h2 : v.toInt ≤ 9999) : MI (si σ 158 k v) := ⟨h.1, ⟨(by show bnd (va_up σ.1 158 (upd (σ.1 158) k v) 105) _ _ _; rw [va_up_ne _ _ (by decide +kernel)]; exact h.2.1.1), (by show bnd (va_up σ.1 158 (upd (σ.1 158) k v) 110) _ _ _; rw [va_up_ne _ _ (by decide +kernel)]; exact h.2.1.2.1), (by show bnd (va_up σ.1 158 (upd (σ.1 158) k v) 116) _ _ _; rw [va_up_ne _ _ (by decide +kernel)]; exact h.2.1.2.2.1), (by show bnd (va_up σ.1 158 (upd (σ.1 158) k v) 117) _ _ _; rw [va_up_ne _ _ (by decide +kernel)]; exact h.2.1.2.2.2.1), (by show bnd (va_up σ.1 158 (upd (σ.1 158) k v) 127) _ _ _; rw [va_up_ne _ _ (by decide +kernel)]; exact h.2.1.2.2.2.2.1), (by show bnd (va_up σ.1 158 (upd (σ.1 158) k v) 129) _ _ _; rw [va_up_ne _ _ (by decide +kernel)]; exact h.2.1.2.2.2.2.2.1), (by show bnd (va_up σ.1 158 (upd (σ.1 158) k v) 134) _ _ _; rw [va_up_ne _ _ (by decide +kernel)]; exact h.2.1.2.2.2.2.2.2.1), (by show bnd (va_up σ.1 158 (upd (σ.1 158) k v) 138) _ _ _; rw [va_up_ne _ _ (by decide +kernel)]; exact h.2.1.2.2.2.2.2.2.2.1), (by show bnd (va_up σ.1 158 (upd (σ.1 158) k v) 139) _ _ _; rw [va_up_ne _ _ (by decide +kernel)]; exact h.2.1.2.2.2.2.2.2.2.2.1), (by show bnd (va_up σ.1 158 (upd (σ.1 158) k v) 142) _ _ _; rw [va_up_ne _ _ (by decide +kernel)]; exact h.2.1.2.2.2.2.2.2.2.2.2.1), (by show bnd (va_up σ.1 158 (upd (σ.1 158) k v) 143) _ _ _; rw [va_up_ne _ _ (by decide +kernel)]; exact h.2.1.2.2.2.2.2.2.2.2.2.2.1), (by show bnd (va_up σ.1 158 (upd (σ.1 158) k v) 158) _ _ _; rw [va_up_self]; exact bnd_up (h.2.1.2.2.2.2.2.2.2.2.2.2.2.1) h1 h2), (by show bnd (va_up σ.1 158 (upd (σ.1 158) k v) 162) _ _ _; rw [va_up_ne _ _ (by decide +kernel)]; exact h.2.1.2.2.2.2.2.2.2.2.2.2.2.2.1), (by show bnd (va_up σ.1 158 (upd (σ.1 158) k v) 164) _ _ _; rw [va_up_ne _ _ (by decide +kernel)]; exact h.2.1.2.2.2.2.2.2.2.2.2.2.2.2.2.1), (by show bnd (va_up σ.1 158 (upd (σ.1 158) k v) 165) _ _ _; rw [va_up_ne _ _ (by decide +kernel)]; exact h.2.1.2.2.2.2.2.2.2.2.2.2.2.2.2.2.1), (by show bnd (va_up σ.1 158 (upd (σ.1 158) k v) 171) _ _ _; rw [va_up_ne _ _ (by decide +kernel)]; exact h.2.1.2.2.2.2.2.2.2.2.2.2.2.2.2.2.2.1), (by show bnd (va_up σ.1 158 (upd (σ.1 158) k v) 172) _ _ _; rw [va_up_ne _ _ (by decide +kernel)]; exact h.2.1.2.2.2.2.2.2.2.2.2.2.2.2.2.2.2.2)⟩, FV_si rfl (fun e => absurd e (by decide +kernel)) h.2.2⟩
theorem MIs_a162 {σ : Sg} (h : MI σ) {k : Nat} {v : Int32} (h1 : 0 ≤ v.toInt) (h2 : v.toInt ≤ 5) : MI (si σ 162 k v) := ⟨h.1, ⟨(by show bnd (va_up σ.1 162 (upd (σ.1 162) k v) 105) _ _ _; rw [va_up_ne _ _ (by decide +kernel)]; exact h.2.1.1), (by show bnd (va_up σ.1 162 (upd (σ.1 162) k v) 110) _ _ _; rw [va_up_ne _ _ (by decide +kernel)]; exact h.2.1.2.1), (by show bnd (va_up σ.1 162 (upd (σ.1 162) k v) 116) _ _ _; rw [va_up_ne _ _ (by decide +kernel)]; exact h.2.1.2.2.1), (by show bnd (va_up σ.1 162 (upd (σ.1 162) k v) 117) _ _ _; rw [va_up_ne _ _ (by decide +kernel)]; exact h.2.1.2.2.2.1), (by show bnd (va_up σ.1 162 (upd (σ.1 162) k v) 127) _ _ _; rw [va_up_ne _ _ (by decide +kernel)]; exact h.2.1.2.2.2.2.1), (by show bnd (va_up σ.1 162 (upd (σ.1 162) k v) 129) _ _ _; rw [va_up_ne _ _ (by decide +kernel)]; exact h.2.1.2.2.2.2.2.1), (by show bnd (va_up σ.1 162 (upd (σ.1 162) k v) 134) _ _ _; rw [va_up_ne _ _ (by decide +kernel)]; exact h.2.1.2.2.2.2.2.2.1), (by show bnd (va_up σ.1 162 (upd (σ.1 162) k v) 138) _ _ _; rw [va_up_ne _ _ (by decide +kernel)]; exact h.2.1.2.2.2.2.2.2.2.1), (by show bnd (va_up σ.1 162 (upd (σ.1 162) k v) 139) _ _ _; rw [va_up_ne _ _ (by decide +kernel)]; exact h.2.1.2.2.2.2.2.2.2.2.1), (by show bnd (va_up σ.1 162 (upd (σ.1 162) k v) 142) _ _ _; rw [va_up_ne _ _ (by decide +kernel)]; exact h.2.1.2.2.2.2.2.2.2.2.2.1), (by show bnd (va_up σ.1 162 (upd (σ.1 162) k v) 143) _ _ _; rw [va_up_ne _ _ (by decide +kernel)]; exact h.2.1.2.2.2.2.2.2.2.2.2.2.1), (by show bnd (va_up σ.1 162 (upd (σ.1 162) k v) 158) _ _ _; rw [va_up_ne _ _ (by decide +kernel)]; exact h.2.1.2.2.2.2.2.2.2.2.2.2.2.1), (by show bnd (va_up σ.1 162 (upd (σ.1 162) k v) 162) _ _ _; rw [va_up_self]; exact bnd_up (h.2.1.2.2.2.2.2.2.2.2.2.2.2.2.1) h1 h2), (by show bnd (va_up σ.1 162 (upd (σ.1 162) k v) 164) _ _ _; rw [va_up_ne _ _ (by decide +kernel)]; exact h.2.1.2.2.2.2.2.2.2.2.2.2.2.2.2.1), (by show bnd (va_up σ.1 162 (upd (σ.1 162) k v) 165) _ _ _; rw [va_up_ne _ _ (by decide +kernel)]; exact h.2.1.2.2.2.2.2.2.2.2.2.2.2.2.2.2.1), (by show bnd (va_up σ.1 162 (upd (σ.1 162) k v) 171) _ _ _; rw [va_up_ne _ _ (by decide +kernel)]; exact h.2.1.2.2.2.2.2.2.2.2.2.2.2.2.2.2.2.1), (by show bnd (va_up σ.1 162 (upd (σ.1 162) k v) 172) _ _ _; rw [va_up_ne _ _ (by decide +kernel)]; exact h.2.1.2.2.2.2.2.2.2.2.2.2.2.2.2.2.2.2)⟩, FV_si rfl (fun e => absurd e (by decide +kernel)) h.2.2⟩
theorem MIs_a164 {σ : Sg} (h : MI σ) {k : Nat} {v : Int32} (h1 : 0 ≤ v.toInt) (h2 : v.toInt ≤ 5) : MI (si σ 164 k v) := ⟨h.1, ⟨(by show bnd (va_up σ.1 164 (upd (σ.1 164) k v) 105) _ _ _; rw [va_up_ne _ _ (by decide +kernel)]; exact h.2.1.1), (by show bnd (va_up σ.1 164 (upd (σ.1 164) k v) 110) _ _ _; rw [va_up_ne _ _ (by decide +kernel)]; exact h.2.1.2.1), (by show bnd (va_up σ.1 164 (upd (σ.1 164) k v) 116) _ _ _; rw [va_up_ne _ _ (by decide +kernel)]; exact h.2.1.2.2.1), (by show bnd (va_up σ.1 164 (upd (σ.1 164) k v) 117) _ _ _; rw [va_up_ne _ _ (by decide +kernel)]; exact h.2.1.2.2.2.1), (by show bnd (va_up σ.1 164 (upd (σ.1 164) k v) 127) _ _ _; rw [va_up_ne _ _ (by decide +kernel)]; exact h.2.1.2.2.2.2.1), (by show bnd (va_up σ.1 164 (upd (σ.1 164) k v) 129) _ _ _; rw [va_up_ne _ _ (by decide +kernel)]; exact h.2.1.2.2.2.2.2.1), (by show bnd (va_up σ.1 164 (upd (σ.1 164) k v) 134) _ _ _; rw [va_up_ne _ _ (by decide +kernel)]; exact h.2.1.2.2.2.2.2.2.1), (by show bnd (va_up σ.1 164 (upd (σ.1 164) k v) 138) _ _ _; rw [va_up_ne _ _ (by decide +kernel)]; exact h.2.1.2.2.2.2.2.2.2.1), (by show bnd (va_up σ.1 164 (upd (σ.1 164) k v) 139) _ _ _; rw [va_up_ne _ _ (by decide +kernel)]; exact h.2.1.2.2.2.2.2.2.2.2.1), (by show bnd (va_up σ.1 164 (upd (σ.1 164) k v) 142) _ _ _; rw [va_up_ne _ _ (by decide +kernel)]; exact h.2.1.2.2.2.2.2.2.2.2.2.1), (by show bnd (va_up σ.1 164 (upd (σ.1 164) k v) 143) _ _ _; rw [va_up_ne _ _ (by decide +kernel)]; exact h.2.1.2.2.2.2.2.2.2.2.2.2.1), (by show bnd (va_up σ.1 164 (upd (σ.1 164) k v) 158) _ _ _; rw [va_up_ne _ _ (by decide +kernel)]; exact h.2.1.2.2.2.2.2.2.2.2.2.2.2.1), (by show bnd (va_up σ.1 164 (upd (σ.1 164) k v) 162) _ _ _; rw [va_up_ne _ _ (by decide +kernel)]; exact h.2.1.2.2.2.2.2.2.2.2.2.2.2.2.1), (by show bnd (va_up σ.1 164 (upd (σ.1 164) k v) 164) _ _ _; rw [va_up_self]; exact bnd_up (h.2.1.2.2.2.2.2.2.2.2.2.2.2.2.2.1) h1 h2), (by show bnd (va_up σ.1 164 (upd (σ.1 164) k v) 165) _ _ _; rw [va_up_ne _ _ (by decide +kernel)]; exact h.2.1.2.2.2.2.2.2.2.2.2.2.2.2.2.2.1), (by show bnd (va_up σ.1 164 (upd (σ.1 164) k v) 171) _ _ _; rw [va_up_ne _ _ (by decide +kernel)]; exact h.2.1.2.2.2.2.2.2.2.2.2.2.2.2.2.2.2.1), (by show bnd (va_up σ.1 164 (upd (σ.1 164) k v) 172) _ _ _; rw [va_up_ne _ _ (by decide +kernel)]; exact h.2.1.2.2.2.2.2.2.2.2.2.2.2.2.2.2.2.2)⟩, FV_si rfl (fun e => absurd e (by decide +kernel)) h.2.2⟩
theorem MIs_a165 {σ : Sg} (h : MI σ) {k : Nat} {v : Int32} (h1 : 0 ≤ v.toInt) (h2 : v.toInt ≤ 30) : MI (si σ 165 k v) := ⟨h.1, ⟨(by show bnd (va_up σ.1 165 (upd (σ.1 165) k v) 105) _ _ _; rw [va_up_ne _ _ (by decide +kernel)]; exact h.2.1.1), (by show bnd (va_up σ.1 165 (upd (σ.1 165) k v) 110) _ _ _; rw [va_up_ne _ _ (by decide +kernel)]; exact h.2.1.2.1), (by show bnd (va_up σ.1 165 (upd (σ.1 165) k v) 116) _ _ _; rw [va_up_ne _ _ (by decide +kernel)]; exact h.2.1.2.2.1), (by show bnd (va_up σ.1 165 (upd (σ.1 165) k v) 117) _ _ _; rw [va_up_ne _ _ (by decide +kernel)]; exact h.2.1.2.2.2.1), (by show bnd (va_up σ.1 165 (upd (σ.1 165) k v) 127) _ _ _; rw [va_up_ne _ _ (by decide +kernel)]; exact h.2.1.2.2.2.2.1), (by show bnd (va_up σ.1 165 (upd (σ.1 165) k v) 129) _ _ _; rw [va_up_ne _ _ (by decide +kernel)]; exact h.2.1.2.2.2.2.2.1), (by show bnd (va_up σ.1 165 (upd (σ.1 165) k v) 134) _ _ _; rw [va_up_ne _ _ (by decide +kernel)]; exact h.2.1.2.2.2.2.2.2.1), (by show bnd (va_up σ.1 165 (upd (σ.1 165) k v) 138) _ _ _; rw [va_up_ne _ _ (by decide +kernel)]; exact h.2.1.2.2.2.2.2.2.2.1), (by show bnd (va_up σ.1 165 (upd (σ.1 165) k v) 139) _ _ _; rw [va_up_ne _ _ (by decide +kernel)]; exact h.2.1.2.2.2.2.2.2.2.2.1), (by show bnd (va_up σ.1 165 (upd (σ.1 165) k v) 142) _ _ _; rw [va_up_ne _ _ (by decide +kernel)]; exact h.2.1.2.2.2.2.2.2.2.2.2.1), (by show bnd (va_up σ.1 165 (upd (σ.1 165) k v) 143) _ _ _; rw [va_up_ne _ _ (by decide +kernel)]; exact h.2.1.2.2.2.2.2.2.2.2.2.2.1), (by show bnd (va_up σ.1 165 (upd (σ.1 165) k v) 158) _ _ _; rw [va_up_ne _ _ (by decide +kernel)]; exact h.2.1.2.2.2.2.2.2.2.2.2.2.2.1), (by show bnd (va_up σ.1 165 (upd (σ.1 165) k v) 162) _ _ _; rw [va_up_ne _ _ (by decide +kernel)]; exact h.2.1.2.2.2.2.2.2.2.2.2.2.2.2.1), (by show bnd (va_up σ.1 165 (upd (σ.1 165) k v) 164) _ _ _; rw [va_up_ne _ _ (by decide +kernel)]; exact h.2.1.2.2.2.2.2.2.2.2.2.2.2.2.2.1), (by show bnd (va_up σ.1 165 (upd (σ.1 165) k v) 165) _ _ _; rw [va_up_self]; exact bnd_up (h.2.1.2.2.2.2.2.2.2.2.2.2.2.2.2.2.1) h1 h2), (by show bnd (va_up σ.1 165 (upd (σ.1 165) k v) 171) _ _ _; rw [va_up_ne _ _ (by decide +kernel)]; exact h.2.1.2.2.2.2.2.2.2.2.2.2.2.2.2.2.2.1), (by show bnd (va_up σ.1 165 (upd (σ.1 165) k v) 172) _ _ _; rw [va_up_ne _ _ (by decide +kernel)]; exact h.2.1.2.2.2.2.2.2.2.2.2.2.2.2.2.2.2.2)⟩, FV_si rfl (fun e => absurd e (by decide +kernel)) h.2.2⟩
theorem MIs_a171 {σ : Sg} (h : MI σ) {k : Nat} {v : Int32} (h1 : -1 ≤ v.toInt) (h2 : v.toInt ≤ 4) : MI (si σ 171 k v) := ⟨h.1, ⟨(by show bnd (va_up σ.1 171 (upd (σ.1 171) k v) 105) _ _ _; rw [va_up_ne _ _ (by decide +kernel)]; exact h.2.1.1), (by show bnd (va_up σ.1 171 (upd (σ.1 171) k v) 110) _ _ _; rw [va_up_ne _ _ (by decide +kernel)]; exact h.2.1.2.1), (by show bnd (va_up σ.1 171 (upd (σ.1 171) k v) 116) _ _ _; rw [va_up_ne _ _ (by decide +kernel)]; exact h.2.1.2.2.1), (by show bnd (va_up σ.1 171 (upd (σ.1 171) k v) 117) _ _ _; rw [va_up_ne _ _ (by decide +kernel)]; exact h.2.1.2.2.2.1), (by show bnd (va_up σ.1 171 (upd (σ.1 171) k v) 127) _ _ _; rw [va_up_ne _ _ (by decide +kernel)]; exact h.2.1.2.2.2.2.1), (by show bnd (va_up σ.1 171 (upd (σ.1 171) k v) 129) _ _ _; rw [va_up_ne _ _ (by decide +kernel)]; exact h.2.1.2.2.2.2.2.1), (by show bnd (va_up σ.1 171 (upd (σ.1 171) k v) 134) _ _ _; rw [va_up_ne _ _ (by decide +kernel)]; exact h.2.1.2.2.2.2.2.2.1), (by show bnd (va_up σ.1 171 (upd (σ.1 171) k v) 138) _ _ _; rw [va_up_ne _ _ (by decide +kernel)]; exact h.2.1.2.2.2.2.2.2.2.1), (by show bnd (va_up σ.1 171 (upd (σ.1 171) k v) 139) _ _ _; rw [va_up_ne _ _ (by decide +kernel)]; exact h.2.1.2.2.2.2.2.2.2.2.1), (by show bnd (va_up σ.1 171 (upd (σ.1 171) k v) 142) _ _ _; rw [va_up_ne _ _ (by decide +kernel)]; exact h.2.1.2.2.2.2.2.2.2.2.2.1), (by show bnd (va_up σ.1 171 (upd (σ.1 171) k v) 143) _ _ _; rw [va_up_ne _ _ (by decide +kernel)]; exact h.2.1.2.2.2.2.2.2.2.2.2.2.1), (by show bnd (va_up σ.1 171 (upd (σ.1 171) k v) 158) _ _ _; rw [va_up_ne _ _ (by decide +kernel)]; exact h.2.1.2.2.2.2.2.2.2.2.2.2.2.1), (by show bnd (va_up σ.1 171 (upd (σ.1 171) k v) 162) _ _ _; rw [va_up_ne _ _ (by decide +kernel)]; exact h.2.1.2.2.2.2.2.2.2.2.2.2.2.2.1), (by show bnd (va_up σ.1 171 (upd (σ.1 171) k v) 164) _ _ _; rw [va_up_ne _ _ (by decide +kernel)]; exact h.2.1.2.2.2.2.2.2.2.2.2.2.2.2.2.1), (by show bnd (va_up σ.1 171 (upd (σ.1 171) k v) 165) _ _ _; rw [va_up_ne _ _ (by decide +kernel)]; exact h.2.1.2.2.2.2.2.2.2.2.2.2.2.2.2.2.1), (by show bnd (va_up σ.1 171 (upd (σ.1 171) k v) 171) _ _ _; rw [va_up_self]; exact bnd_up (h.2.1.2.2.2.2.2.2.2.2.2.2.2.2.2.2.2.1) h1 h2), (by show bnd (va_up σ.1 171 (upd (σ.1 171) k v) 172) _ _ _; rw [va_up_ne _ _ (by decide +kernel)]; exact h.2.1.2.2.2.2.2.2.2.2.2.2.2.2.2.2.2.2)⟩, FV_si rfl (fun e => absurd e (by decide +kernel)) h.2.2⟩
theorem MIs_a172 {σ : Sg} (h : MI σ) {k : Nat} {v : Int32} (h1 : 0 ≤ v.toInt) (h2 : v.toInt ≤ 60) : MI (si σ 172 k v) := ⟨h.1, ⟨(by show bnd (va_up σ.1 172 (upd (σ.1 172) k v) 105) _ _ _; rw [va_up_ne _ _ (by decide +kernel)]; exact h.2.1.1), (by show bnd (va_up σ.1 172 (upd (σ.1 172) k v) 110) _ _ _; rw [va_up_ne _ _ (by decide +kernel)]; exact h.2.1.2.1), (by show bnd (va_up σ.1 172 (upd (σ.1 172) k v) 116) _ _ _; rw [va_up_ne _ _ (by decide +kernel)]; exact h.2.1.2.2.1), (by show bnd (va_up σ.1 172 (upd (σ.1 172) k v) 117) _ _ _; rw [va_up_ne _ _ (by decide +kernel)]; exact h.2.1.2.2.2.1), (by show bnd (va_up σ.1 172 (upd (σ.1 172) k v) 127) _ _ _; rw [va_up_ne _ _ (by decide +kernel)]; exact h.2.1.2.2.2.2.1), (by show bnd (va_up σ.1 172 (upd (σ.1 172) k v) 129) _ _ _; rw [va_up_ne _ _ (by decide +kernel)]; exact h.2.1.2.2.2.2.2.1), (by show bnd (va_up σ.1 172 (upd (σ.1 172) k v) 134) _ _ _; rw [va_up_ne _ _ (by decide +kernel)]; exact h.2.1.2.2.2.2.2.2.1), (by show bnd (va_up σ.1 172 (upd (σ.1 172) k v) 138) _ _ _; rw [va_up_ne _ _ (by decide +kernel)]; exact h.2.1.2.2.2.2.2.2.2.1), (by show bnd (va_up σ.1 172 (upd (σ.1 172) k v) 139) _ _ _; rw [va_up_ne _ _ (by decide +kernel)]; exact h.2.1.2.2.2.2.2.2.2.2.1), (by show bnd (va_up σ.1 172 (upd (σ.1 172) k v) 142) _ _ _; rw [va_up_ne _ _ (by decide +kernel)]; exact h.2.1.2.2.2.2.2.2.2.2.2.1), (by show bnd (va_up σ.1 172 (upd (σ.1 172) k v) 143) _ _ _; rw [va_up_ne _ _ (by decide +kernel)]; exact h.2.1.2.2.2.2.2.2.2.2.2.2.1), (by show bnd (va_up σ.1 172 (upd (σ.1 172) k v) 158) _ _ _; rw [va_up_ne _ _ (by decide +kernel)]; exact h.2.1.2.2.2.2.2.2.2.2.2.2.2.1), (by show bnd (va_up σ.1 172 (upd (σ.1 172) k v) 162) _ _ _; rw [va_up_ne _ _ (by decide +kernel)]; exact h.2.1.2.2.2.2.2.2.2.2.2.2.2.2.1), (by show bnd (va_up σ.1 172 (upd (σ.1 172) k v) 164) _ _ _; rw [va_up_ne _ _ (by decide +kernel)]; exact h.2.1.2.2.2.2.2.2.2.2.2.2.2.2.2.1), (by show bnd (va_up σ.1 172 (upd (σ.1 172) k v) 165) _ _ _; rw [va_up_ne _ _ (by decide +kernel)]; exact h.2.1.2.2.2.2.2.2.2.2.2.2.2.2.2.2.1), (by show bnd (va_up σ.1 172 (upd (σ.1 172) k v) 171) _ _ _; rw [va_up_ne _ _ (by decide +kernel)]; exact h.2.1.2.2.2.2.2.2.2.2.2.2.2.2.2.2.2.1), (by show bnd (va_up σ.1 172 (upd (σ.1 172) k v) 172) _ _ _; rw [va_up_self]; exact bnd_up (h.2.1.2.2.2.2.2.2.2.2.2.2.2.2.2.2.2.2) h1 h2)⟩, FV_si rfl (fun e => absurd e (by decide +kernel)) h.2.2⟩
theorem MIs_z129 {σ : Sg} (h : MI σ) {k : Nat} {x : Int32} : MI (si σ 129 k (vp_nar .boolean x)) := MIs_a129 h (nar_z x).1 (nar_z x).2
noncomputable def okA (a : Nat) : Bool := a != 74 && !maL.contains a
theorem MIs_au0 {σ : Sg} {a k : Nat} {v : Int32} (h : MI σ) (ha : okA a = true) (hF : FV (si σ a k v)) : MI (si σ a k v) := by
  have ha1 : a ≠ 74 := fun e => by subst e; exact absurd ha (by decide +kernel)
  have ha2 : ∀ b, b ∈ maL → b ≠ a := fun b hb e => by
    subst e
    have : maL.contains b = true := List.contains_iff_mem.mpr hb
    unfold okA at ha
    rw [this] at ha
    simp at ha
  have e0 : (si σ a k v).1 74 = σ.1 74 := va_up_ne _ _ (fun e => ha1 e.symm)
  have e1 : ∀ b, b ∈ maL → (si σ a k v).1 b = σ.1 b := fun b hb => va_up_ne _ _ (ha2 b hb)
  refine ⟨?_, ?_, hF⟩
  · have h0 := h.1
    unfold MI0 gi at h0 ⊢
    rw [e0]; exact h0
  · unfold MI1
    rw [e1 105 (by decide +kernel), e1 110 (by decide +kernel), e1 116 (by decide +kernel), e1 117 (by decide +kernel), e1 127 (by decide +kernel), e1 129 (by decide +kernel), e1 134 (by decide +kernel), e1 138 (by decide +kernel), e1 139 (by decide +kernel), e1 142 (by decide +kernel), e1 143 (by decide +kernel), e1 158 (by decide +kernel), e1 162 (by decide +kernel), e1 164 (by decide +kernel), e1 165 (by decide +kernel), e1 171 (by decide +kernel), e1 172 (by decide +kernel)]
    exact h.2.1
theorem MIs_au {σ : Sg} {a k : Nat} {v : Int32} (h : MI σ) (ha : okA a = true) (hb : fvL.contains a = false) : MI (si σ a k v) := MIs_au0 h ha (FV_si hb (fun e => absurd ha (by subst e; decide)) h.2.2)
theorem cl_eq {x : Int32} (h : 0 ≤ x.toInt) : ((x.toNatClampNeg : Nat) : Int) = x.toInt := by show ((x.toInt.toNat : Nat) : Int) = x.toInt; omega
theorem MIs_l {σ : Sg} {a k : Nat} {v : Int64} (h : MI σ) : MI (sl σ a k v) := h
/-- the byte that comes next -/
noncomputable def nxt (σ : Sg) : Int32 := if gi σ 74 13 ≤ gi σ 74 14 then -1 else gi σ 116 (gi σ 74 14).toNatClampNeg
theorem nxt_a {σ : Sg} (h : gi σ 74 13 ≤ gi σ 74 14) : nxt σ = -1 := if_pos h
theorem nxt_b {σ : Sg} (h : ¬ gi σ 74 13 ≤ gi σ 74 14) : nxt σ = gi σ 116 (gi σ 74 14).toNatClampNeg := if_neg h
theorem nxt_lt {σ : Sg} (m : MI σ) (h : 0 ≤ (nxt σ).toInt) : (gi σ 74 14).toInt < (gi σ 74 13).toInt ∧ (nxt σ).toInt ≤ 127 := by
  by_cases q : gi σ 74 13 ≤ gi σ 74 14
  · rw [nxt_a q] at h; exact absurd h (by decide +kernel)
  · have b : (gi σ 74 14).toInt < (gi σ 74 13).toInt := Int.not_le.mp fun z => q (Int32.le_iff_toInt_le.mpr z)
    have b1 := MI_f13 m
    have b2 := MI_f14 m
    refine ⟨b, ?_⟩
    rw [nxt_b q]
    exact (MI_a116 m (vp_in_iff.mpr ⟨b2.1, by omega⟩)).2
/-- every mower stands in the row -/
noncomputable def PL (σ : Sg) : Prop := ∀ m : Nat, (m : Int) < (gi σ 74 0).toInt → ∃ k : Nat, (k : Int) < (gi σ 74 0).toInt ∧ gi σ 110 k = nI m
theorem PL_i {σ : Sg} (h : PL σ) {a : Int32} (h0 : 0 ≤ a.toInt) (h1 : a.toInt < (gi σ 74 0).toInt) : ∃ k : Nat, (k : Int) < (gi σ 74 0).toInt ∧ gi σ 110 k = a := by
  have ec := cl_eq h0
  obtain ⟨k, hk, e⟩ := h a.toNatClampNeg (by omega)
  refine ⟨k, hk, e.trans ?_⟩
  apply Int32.toInt_inj.mp
  rw [nI_toInt (by have := Int32.toInt_lt a; omega)]
  exact ec
theorem PL_fr {S F : List Nat} {σ σ' : Sg} (h : PL σ) (f : Fr S F σ σ') (h1 : 110 ∉ S) (h2 : 0 ∉ F) : PL σ' := by
  intro m hm
  rw [f.2.1 0 h2] at hm ⊢
  obtain ⟨k, hk, e⟩ := h m hm
  exact ⟨k, hk, (congrFun (f.1 110 h1).1 k).trans e⟩
theorem okSegG {σ : Sg} {lo hi : Nat} (h : okSeg σ lo hi) : ∃ G : Int → Int, G lo = 0 ∧ ∀ z : Int, (lo : Int) ≤ z → z < hi → (gi σ 122 z.toNat = -33 → 1 ≤ G z ∧ G (z + 1) = G z) ∧ (¬ gi σ 122 z.toNat = -33 → (gi σ 122 z.toNat).toInt < 0 → 2 ≤ G z ∧ G (z + 1) + 1 = G z) ∧ (0 ≤ (gi σ 122 z.toNat).toInt → G z ≤ 99 ∧ G (z + 1) = G z + 1) := by
  obtain ⟨H, h0, hk⟩ := h
  refine ⟨fun z => (H z.toNat : Int), by show ((H (lo : Int).toNat : Nat) : Int) = 0; rw [show (lo : Int).toNat = lo by omega, h0]; rfl, fun z h1 h2 => ?_⟩
  have e : (z + 1).toNat = z.toNat + 1 := by omega
  have q := hk z.toNat (by omega) (by omega)
  dsimp only
  rw [e]
  generalize H (z.toNat + 1) = b at q ⊢
  generalize H z.toNat = a at q ⊢
  refine ⟨fun r => ?_, fun r r2 => ?_, fun r => ?_⟩
  · have := q.1 r; omega
  · have := q.2.1 r r2; omega
  · have := q.2.2 r; omega
theorem okCl_of {σ : Sg} (h : MI σ) {c : Int32} (h1 : 0 ≤ (gi σ 74 12).toInt) (h2 : 10 * (gi σ 74 12).toInt ≤ c.toInt) (h3 : c.toInt < 10 * (gi σ 74 12).toInt + (gi σ 117 (gi σ 74 12).toNatClampNeg).toInt) (h4 : (gi σ 118 c.toNatClampNeg).toInt ≤ 1) : ∃ f : Nat, f < 6 ∧ okCl σ f c.toNatClampNeg := by
  have b := MI_f12 h
  have hv : vp_in (gi σ 74 12) 6 := vp_in_iff.mpr ⟨by omega, by omega⟩
  have b2 := MI_a117 h hv
  have ef := cl_eq h1
  have ec := cl_eq (x := c) (by omega)
  generalize (gi σ 74 12).toNatClampNeg = f at ef b2 h3
  refine ⟨f, by omega, ?_⟩
  have q := h.2.2 f (by omega) (Or.inr (Or.inl (by omega))) (c.toNatClampNeg - 10 * f) (by omega) (by omega)
  rw [show 10 * f + (c.toNatClampNeg - 10 * f) = c.toNatClampNeg by omega] at q
  exact q h4
set_option maxRecDepth 100000 in
set_option maxHeartbeats 4000000 in
theorem k_X12_in {l : Launch} {V : Vx} {a1 : Int32} {a2 : Int32} {a3 : Int32} {σ0 : Sg} {Qk : Int32 → Sg → Prop} (m0 : MI σ0) (h9ret : ∀ (r : Int32) (σ' : Sg), MI σ' → Fr [] [] σ0 σ' → (0 ≤ r.toInt) → (r.toInt ≤ 1) → ((r.toInt = 1 ∧ a2.toInt ≤ a1.toInt ∧ a1.toInt ≤ a3.toInt) ∨ (r.toInt = 0 ∧ (a1.toInt < a2.toInt ∨ a3.toInt < a1.toInt))) → Qk r σ') : K_X12_in l V a1 a2 a3 σ0 Qk := by
  refine e_X12_in (fun M hl hV hN C => ?_)
  subst hl
  subst hV
  have f0 : Fr [] [] σ0 σ0 := Fr_rf
  refine s_X12_in_0 C hN ?_
  refine ⟨?_, ?_⟩
  · intro q_1
    have w_2 := Int32.toInt_lt a1
    have w_3 := Int32.le_toInt a1
    have w_4 := Int32.toInt_lt a2
    have w_5 := Int32.le_toInt a2
    have b_6 : a1.toInt < a2.toInt := Int32.lt_iff_toInt_lt.mp q_1
    have z_7 : (0 : Int32).toInt = 0 := rfl
    exact h9ret (0 : Int32) σ0 m0 f0 (by omega) (by omega) (by first | with_reducible assumption | with_reducible rfl | omega | assumption | rfl)
  · intro q_1
    have w_8 := Int32.toInt_lt a1
    have w_9 := Int32.le_toInt a1
    have w_10 := Int32.toInt_lt a2
    have w_11 := Int32.le_toInt a2
    have b_12 : ¬ a1.toInt < a2.toInt := fun h9 => q_1 (Int32.lt_iff_toInt_lt.mpr h9)
    refine ⟨?_, ?_⟩
    · intro q_13
      have w_14 := Int32.toInt_lt a3
      have w_15 := Int32.le_toInt a3
      have b_16 : a3.toInt < a1.toInt := Int32.lt_iff_toInt_lt.mp q_13
      have z_17 : (0 : Int32).toInt = 0 := rfl
      exact h9ret (0 : Int32) σ0 m0 f0 (by omega) (by omega) (by first | with_reducible assumption | with_reducible rfl | omega | assumption | rfl)
    · intro q_13
      have w_18 := Int32.toInt_lt a3
      have w_19 := Int32.le_toInt a3
      have b_20 : ¬ a3.toInt < a1.toInt := fun h9 => q_13 (Int32.lt_iff_toInt_lt.mpr h9)
      have z_21 : (1 : Int32).toInt = 1 := rfl
      exact h9ret (1 : Int32) σ0 m0 f0 (by omega) (by omega) (by first | with_reducible assumption | with_reducible rfl | omega | assumption | rfl)
set_option maxRecDepth 100000 in
set_option maxHeartbeats 4000000 in
theorem k_X12_has {l : Launch} {V : Vx} {a1 : Int32} {a2 : Int32} {σ0 : Sg} {Qk : Int32 → Sg → Prop} (m0 : MI σ0) (h9ret : ∀ (r : Int32) (σ' : Sg), MI σ' → Fr [] [] σ0 σ' → (0 ≤ r.toInt) → (r.toInt ≤ 1) → Qk r σ') : K_X12_has l V a1 a2 σ0 Qk := by
  refine e_X12_has (fun M hl hV hN C => ?_)
  subst hl
  subst hV
  have f0 : Fr [] [] σ0 σ0 := Fr_rf
  refine s_X12_has_0 C hN ?_
  refine ⟨?_, ?_⟩
  · intro q_1
    have w_2 := Int32.toInt_lt a1
    have w_3 := Int32.le_toInt a1
    have w_4 := Int32.toInt_lt a2
    have w_5 := Int32.le_toInt a2
    have b_6 : ¬ ((a1 >>> (a2 &&& (31 : Int32))) &&& (1 : Int32)).toInt = 1 := fun h9 => q_1 (Int32.toInt_inj.mp h9)
    have z_7 : (0 : Int32).toInt = 0 := rfl
    exact h9ret (0 : Int32) σ0 m0 f0 (by omega) (by omega)
  · intro q_1
    have w_8 := Int32.toInt_lt a1
    have w_9 := Int32.le_toInt a1
    have w_10 := Int32.toInt_lt a2
    have w_11 := Int32.le_toInt a2
    have b_12 : ((a1 >>> (a2 &&& (31 : Int32))) &&& (1 : Int32)).toInt = 1 := congrArg Int32.toInt q_1
    have z_13 : (1 : Int32).toInt = 1 := rfl
    exact h9ret (1 : Int32) σ0 m0 f0 (by omega) (by omega)
set_option maxRecDepth 100000 in
set_option maxHeartbeats 4000000 in
theorem k_X12_least {l : Launch} {V : Vx} {a1 : Int32} {a2 : Int32} {σ0 : Sg} {Qk : Int32 → Sg → Prop} (m0 : MI σ0) (h9ret : ∀ (r : Int32) (σ' : Sg), MI σ' → Fr [] [] σ0 σ' → (r.toInt ≤ a1.toInt ∧ r.toInt ≤ a2.toInt ∧ (r.toInt = a1.toInt ∨ r.toInt = a2.toInt)) → Qk r σ') : K_X12_least l V a1 a2 σ0 Qk := by
  refine e_X12_least (fun M hl hV hN C => ?_)
  subst hl
  subst hV
  have f0 : Fr [] [] σ0 σ0 := Fr_rf
  refine s_X12_least_0 C hN ?_
  refine ⟨?_, ?_⟩
  · intro q_1
    have w_2 := Int32.toInt_lt a2
    have w_3 := Int32.le_toInt a2
    have w_4 := Int32.toInt_lt a1
    have w_5 := Int32.le_toInt a1
    have b_6 : a2.toInt ≤ a1.toInt := Int32.le_iff_toInt_le.mp q_1
    exact h9ret a2 σ0 m0 f0 (by first | with_reducible assumption | with_reducible rfl | omega | assumption | rfl)
  · intro q_1
    have w_7 := Int32.toInt_lt a2
    have w_8 := Int32.le_toInt a2
    have w_9 := Int32.toInt_lt a1
    have w_10 := Int32.le_toInt a1
    have b_11 : ¬ a2.toInt ≤ a1.toInt := fun h9 => q_1 (Int32.le_iff_toInt_le.mpr h9)
    exact h9ret a1 σ0 m0 f0 (by first | with_reducible assumption | with_reducible rfl | omega | assumption | rfl)
set_option maxRecDepth 100000 in
set_option maxHeartbeats 4000000 in
theorem k_X12_most {l : Launch} {V : Vx} {a1 : Int32} {a2 : Int32} {σ0 : Sg} {Qk : Int32 → Sg → Prop} (m0 : MI σ0) (h9ret : ∀ (r : Int32) (σ' : Sg), MI σ' → Fr [] [] σ0 σ' → (a1.toInt ≤ r.toInt ∧ a2.toInt ≤ r.toInt ∧ (r.toInt = a1.toInt ∨ r.toInt = a2.toInt)) → Qk r σ') : K_X12_most l V a1 a2 σ0 Qk := by
  refine e_X12_most (fun M hl hV hN C => ?_)
  subst hl
  subst hV
  have f0 : Fr [] [] σ0 σ0 := Fr_rf
  refine s_X12_most_0 C hN ?_
  refine ⟨?_, ?_⟩
  · intro q_1
    have w_2 := Int32.toInt_lt a1
    have w_3 := Int32.le_toInt a1
    have w_4 := Int32.toInt_lt a2
    have w_5 := Int32.le_toInt a2
    have b_6 : a1.toInt ≤ a2.toInt := Int32.le_iff_toInt_le.mp q_1
    exact h9ret a2 σ0 m0 f0 (by first | with_reducible assumption | with_reducible rfl | omega | assumption | rfl)
  · intro q_1
    have w_7 := Int32.toInt_lt a1
    have w_8 := Int32.le_toInt a1
    have w_9 := Int32.toInt_lt a2
    have w_10 := Int32.le_toInt a2
    have b_11 : ¬ a1.toInt ≤ a2.toInt := fun h9 => q_1 (Int32.le_iff_toInt_le.mpr h9)
    exact h9ret a1 σ0 m0 f0 (by first | with_reducible assumption | with_reducible rfl | omega | assumption | rfl)
set_option maxRecDepth 100000 in
set_option maxHeartbeats 4000000 in
theorem k_X12_isMower {l : Launch} {V : Vx} {a1 : Int32} {σ0 : Sg} {Qk : Int32 → Sg → Prop} (m0 : MI σ0) (h9ret : ∀ (r : Int32) (σ' : Sg), MI σ' → Fr [] [] σ0 σ' → (0 ≤ r.toInt) → (r.toInt ≤ 1) → ((r.toInt = 1 ∧ 0 ≤ a1.toInt ∧ a1.toInt < (gi σ0 74 0).toInt) ∨ (r.toInt = 0 ∧ (a1.toInt < 0 ∨ (gi σ0 74 0).toInt ≤ a1.toInt))) → Qk r σ') : K_X12_isMower l V a1 σ0 Qk := by
  refine e_X12_isMower (fun M hl hV hN C => ?_)
  subst hl
  subst hV
  have f0 : Fr [] [] σ0 σ0 := Fr_rf
  refine s_X12_isMower_0 C hN ?_
  have t_1 := MI_f0 m0
  have t_2 : ((gi σ0 74 0) - (1 : Int32)).toInt = (gi σ0 74 0).toInt - 1 := i_sub (x := (gi σ0 74 0)) (y := (1 : Int32)) (by show (_ : Int) ≤ (gi σ0 74 0).toInt - 1; omega) (by show (gi σ0 74 0).toInt - 1 ≤ (_ : Int); omega)
  refine k_X12_in m0  (fun r2 σ1 mσ1 cσ1 plσ1 phσ1 (pσ1_0 : (r2.toInt = 1 ∧ (0 : Int) ≤ a1.toInt ∧ a1.toInt ≤ ((gi σ0 74 0) - (1 : Int32)).toInt) ∨ (r2.toInt = 0 ∧ (a1.toInt < (0 : Int) ∨ ((gi σ0 74 0) - (1 : Int32)).toInt < a1.toInt))) => ?_)
  obtain rfl := Fr_nil cσ1
  refine ⟨i_bool (by omega) (by omega), ?_⟩
  have t_3 := MI_f0 m0
  exact h9ret r2 σ0 m0 f0 (by omega) (by omega) (by first | with_reducible assumption | with_reducible rfl | omega | assumption | rfl)
set_option maxRecDepth 100000 in
set_option maxHeartbeats 4000000 in
theorem k_X12_begin {l : Launch} {V : Vx} {σ0 : Sg} {Qk : Int32 → Sg → Prop} (m0 : MI σ0) (h9ret : ∀ (r : Int32) (σ' : Sg), MI σ' → Fr [] [] σ0 σ' → (0 ≤ r.toInt) → (r.toInt ≤ 50) → (((gi σ0 74 12).toInt < 0 ∧ r.toInt = 0) ∨ (0 ≤ (gi σ0 74 12).toInt ∧ r.toInt = 10 * (gi σ0 74 12).toInt)) → Qk r σ') : K_X12_begin l V σ0 Qk := by
  refine e_X12_begin (fun M hl hV hN C => ?_)
  subst hl
  subst hV
  have f0 : Fr [] [] σ0 σ0 := Fr_rf
  refine s_X12_begin_0 C hN ?_
  refine ⟨?_, ?_⟩
  · intro q_1
    have t_2 := MI_f12 m0
    have b_3 : (0 : Int) ≤ (gi σ0 74 12).toInt := Int32.le_iff_toInt_le.mp q_1
    have t_4 : ((10 : Int32) * (gi σ0 74 12)).toInt = 10 * (gi σ0 74 12).toInt := i_mull rfl (by omega) (by omega)
    have t_5 := MI_f12 m0
    exact h9ret ((10 : Int32) * (gi σ0 74 12)) σ0 m0 f0 (by omega) (by omega) (by first | with_reducible assumption | with_reducible rfl | omega | assumption | rfl)
  · intro q_1
    have t_6 := MI_f12 m0
    have b_7 : ¬ (0 : Int) ≤ (gi σ0 74 12).toInt := fun h9 => q_1 (Int32.le_iff_toInt_le.mpr h9)
    have z_8 : (0 : Int32).toInt = 0 := rfl
    have t_9 := MI_f12 m0
    exact h9ret (0 : Int32) σ0 m0 f0 (by omega) (by omega) (by first | with_reducible assumption | with_reducible rfl | omega | assumption | rfl)
set_option maxRecDepth 100000 in
set_option maxHeartbeats 4000000 in
theorem k_X12_behind {l : Launch} {V : Vx} {σ0 : Sg} {Qk : Int32 → Sg → Prop} (m0 : MI σ0) (h9ret : ∀ (r : Int32) (σ' : Sg), MI σ' → Fr [] [] σ0 σ' → (0 ≤ r.toInt) → (r.toInt ≤ 60) → (((gi σ0 74 12).toInt < 0 ∧ r.toInt = 0) ∨ (0 ≤ (gi σ0 74 12).toInt ∧ r.toInt = 10 * (gi σ0 74 12).toInt + (gi σ0 117 (gi σ0 74 12).toNatClampNeg).toInt)) → Qk r σ') : K_X12_behind l V σ0 Qk := by
  refine e_X12_behind (fun M hl hV hN C => ?_)
  subst hl
  subst hV
  have f0 : Fr [] [] σ0 σ0 := Fr_rf
  refine s_X12_behind_0 C hN ?_
  refine ⟨?_, ?_⟩
  · intro q_1
    have t_2 := MI_f12 m0
    have b_3 : (0 : Int) ≤ (gi σ0 74 12).toInt := Int32.le_iff_toInt_le.mp q_1
    have hv_4 : vp_in (gi σ0 74 12) 6 := vp_in_iff.mpr ⟨by omega, by omega⟩
    refine ⟨hv_4, ?_⟩
    have t_5 : ((10 : Int32) * (gi σ0 74 12)).toInt = 10 * (gi σ0 74 12).toInt := i_mull rfl (by omega) (by omega)
    have t_6 := MI_a117 m0 hv_4
    have t_7 : (((10 : Int32) * (gi σ0 74 12)) + (gi σ0 117 (gi σ0 74 12).toNatClampNeg)).toInt = ((10 : Int32) * (gi σ0 74 12)).toInt + (gi σ0 117 (gi σ0 74 12).toNatClampNeg).toInt := i_add (x := ((10 : Int32) * (gi σ0 74 12))) (y := (gi σ0 117 (gi σ0 74 12).toNatClampNeg)) (by show (_ : Int) ≤ ((10 : Int32) * (gi σ0 74 12)).toInt + (gi σ0 117 (gi σ0 74 12).toNatClampNeg).toInt; omega) (by show ((10 : Int32) * (gi σ0 74 12)).toInt + (gi σ0 117 (gi σ0 74 12).toNatClampNeg).toInt ≤ (_ : Int); omega)
    have t_8 := MI_f12 m0
    exact h9ret (((10 : Int32) * (gi σ0 74 12)) + (gi σ0 117 (gi σ0 74 12).toNatClampNeg)) σ0 m0 f0 (by omega) (by omega) (by first | with_reducible assumption | with_reducible rfl | omega | assumption | rfl)
  · intro q_1
    have t_9 := MI_f12 m0
    have b_10 : ¬ (0 : Int) ≤ (gi σ0 74 12).toInt := fun h9 => q_1 (Int32.le_iff_toInt_le.mpr h9)
    have z_11 : (0 : Int32).toInt = 0 := rfl
    have t_12 := MI_f12 m0
    exact h9ret (0 : Int32) σ0 m0 f0 (by omega) (by omega) (by first | with_reducible assumption | with_reducible rfl | omega | assumption | rfl)
set_option maxRecDepth 100000 in
set_option maxHeartbeats 4000000 in
theorem k_X12_save {l : Launch} {V : Vx} {σ0 : Sg} {Qk : Sg → Prop} (m0 : MI σ0) (h9ret : ∀ (σ' : Sg), MI σ' → Fr [74, 132, 134, 135, 136, 137] [33] σ0 σ' → ((gi σ' 74 33).toInt = (gi σ0 74 1).toInt) → Qk σ') : K_X12_save l V σ0 Qk := by
  refine e_X12_save (fun M hl hV hN C => ?_)
  subst hl
  subst hV
  have T : ∀ n : Nat, (∀ (x1 : Int32) (σ : Sg), MI σ → Fr [74, 132, 134, 135, 136, 137] [33] σ0 σ → (0 ≤ x1.toInt) → (x1.toInt ≤ 6) → ((gi σ 74 33).toInt = (gi σ0 74 1).toInt) → (7 - x1.toInt).toNat < n → PS M 10 [(0, .ref 74), (1, .int x1)] [] σ (0, 0)) := by
    intro n
    induction n with
    | zero => exact fun _ _ _ _ _ _ _ h8 => absurd h8 (Nat.not_lt_zero _)
    | succ n ih =>
      have ih10 := ih
      · intro x1 σ mσ fσ lx1 ux1 i0 hmu
        refine s_X12_save_10 C hN ?_
        refine ⟨?_, ?_⟩
        · intro q_1
          have b_2 : (6 : Int) ≤ x1.toInt := Int32.le_iff_toInt_le.mp q_1
          exact h9ret σ mσ fσ (by first | with_reducible assumption | with_reducible rfl | omega | assumption | rfl)
        · intro q_1
          have b_3 : ¬ (6 : Int) ≤ x1.toInt := fun h9 => q_1 (Int32.le_iff_toInt_le.mpr h9)
          have hv_4 : vp_in x1 6 := vp_in_iff.mpr ⟨by omega, by omega⟩
          refine ⟨hv_4, ?_⟩
          refine ⟨hv_4, ?_⟩
          intro σ4 eσ4
          have t_5 := MI_a105 mσ hv_4
          have mσ4 : MI σ4 := by rw [eσ4]; exact MIs_a134 mσ (by omega) (by omega)
          have fσ4 : Fr [74, 132, 134, 135, 136, 137] [33] σ0 σ4 := by rw [eσ4]; exact Fr_si fσ (by decide +kernel) (fun h9 => absurd h9 (by decide +kernel))
          have k_6 : (gi σ4 74 1).toInt = (gi σ 74 1).toInt := gk_l eσ4 rfl
          have k_7 : (gi σ4 74 33).toInt = (gi σ 74 33).toInt := gk_l eσ4 rfl
          refine ⟨hv_4, ?_⟩
          refine ⟨hv_4, ?_⟩
          intro σ7 eσ7
          have mσ7 : MI σ7 := by rw [eσ7]; exact MIs_au (a := 135) mσ4 rfl rfl
          have fσ7 : Fr [74, 132, 134, 135, 136, 137] [33] σ0 σ7 := by rw [eσ7]; exact Fr_si fσ4 (by decide +kernel) (fun h9 => absurd h9 (by decide +kernel))
          have k_8 : (gi σ7 74 1).toInt = (gi σ4 74 1).toInt := gk_l eσ7 rfl
          have k_9 : (gi σ7 74 33).toInt = (gi σ4 74 33).toInt := gk_l eσ7 rfl
          refine ⟨hv_4, ?_⟩
          refine ⟨hv_4, ?_⟩
          intro σ10 eσ10
          have mσ10 : MI σ10 := by rw [eσ10]; exact MIs_au (a := 136) mσ7 rfl rfl
          have fσ10 : Fr [74, 132, 134, 135, 136, 137] [33] σ0 σ10 := by rw [eσ10]; exact Fr_si fσ7 (by decide +kernel) (fun h9 => absurd h9 (by decide +kernel))
          have k_10 : (gi σ10 74 1).toInt = (gi σ7 74 1).toInt := gk_l eσ10 rfl
          have k_11 : (gi σ10 74 33).toInt = (gi σ7 74 33).toInt := gk_l eσ10 rfl
          refine ⟨hv_4, ?_⟩
          refine ⟨hv_4, ?_⟩
          intro σ13 eσ13
          have mσ13 : MI σ13 := by rw [eσ13]; exact MIs_au (a := 137) mσ10 rfl rfl
          have fσ13 : Fr [74, 132, 134, 135, 136, 137] [33] σ0 σ13 := by rw [eσ13]; exact Fr_si fσ10 (by decide +kernel) (fun h9 => absurd h9 (by decide +kernel))
          have k_12 : (gi σ13 74 1).toInt = (gi σ10 74 1).toInt := gk_l eσ13 rfl
          have k_13 : (gi σ13 74 33).toInt = (gi σ10 74 33).toInt := gk_l eσ13 rfl
          refine ⟨hv_4, ?_⟩
          intro σ15 eσ15
          have mσ15 : MI σ15 := by rw [eσ15]; exact MIs_au (a := 132) mσ13 rfl rfl
          have fσ15 : Fr [74, 132, 134, 135, 136, 137] [33] σ0 σ15 := by rw [eσ15]; exact Fr_si fσ13 (by decide +kernel) (fun h9 => absurd h9 (by decide +kernel))
          have k_14 : (gi σ15 74 1).toInt = (gi σ13 74 1).toInt := gk_l eσ15 rfl
          have k_15 : (gi σ15 74 33).toInt = (gi σ13 74 33).toInt := gk_l eσ15 rfl
          intro v16 ev16
          have t_16 : (x1 + (1 : Int32)).toInt = x1.toInt + 1 := i_add (x := x1) (y := (1 : Int32)) (by show (_ : Int) ≤ x1.toInt + 1; omega) (by show x1.toInt + 1 ≤ (_ : Int); omega)
          have t_17 : v16.toInt = (x1 + (1 : Int32)).toInt := congrArg Int32.toInt ev16
          exact ih10 v16 σ15 mσ15 fσ15 (by omega) (by omega) (by first | with_reducible assumption | with_reducible rfl | omega | assumption | rfl) (by omega)
  have U10 := T 9
  have f0 : Fr [74, 132, 134, 135, 136, 137] [33] σ0 σ0 := Fr_rf
  refine s_X12_save_0 C hN ?_
  intro σ1 eσ1
  have t_18 := MI_f1 m0
  have mσ1 : MI σ1 := by rw [eσ1]; exact MIs_f33 m0 (by omega) (by omega)
  have fσ1 : Fr [74, 132, 134, 135, 136, 137] [33] σ0 σ1 := by rw [eσ1]; exact Fr_si f0 (by decide +kernel) (fun _ => by decide +kernel)
  have k_19 : (gi σ1 74 1).toInt = (gi σ0 74 1).toInt := gk_r eσ1 rfl
  have k_20 : (gi σ1 74 33).toInt = (gi σ0 74 1).toInt := by rw [eσ1]; exact congrArg Int32.toInt gi_si_eq
  have z_21 : (0 : Int32).toInt = 0 := rfl
  exact U10 (0 : Int32) σ1 mσ1 fσ1 (by omega) (by omega) (by first | with_reducible assumption | with_reducible rfl | omega | assumption | rfl) (by omega)
set_option maxRecDepth 100000 in
set_option maxHeartbeats 4000000 in
theorem k_X12_putBack {l : Launch} {V : Vx} {σ0 : Sg} {Qk : Sg → Prop} (m0 : MI σ0) (h9ret : ∀ (σ' : Sg), MI σ' → Fr [74, 105, 106, 107, 108] [1] σ0 σ' → ((gi σ' 74 1).toInt = (gi σ0 74 33).toInt) → Qk σ') : K_X12_putBack l V σ0 Qk := by
  refine e_X12_putBack (fun M hl hV hN C => ?_)
  subst hl
  subst hV
  have T : ∀ n : Nat, (∀ (x1 : Int32) (σ : Sg), MI σ → Fr [74, 105, 106, 107, 108] [1] σ0 σ → (0 ≤ x1.toInt) → (x1.toInt ≤ 6) → ((gi σ 74 1).toInt = (gi σ0 74 33).toInt) → (7 - x1.toInt).toNat < n → PS M 10 [(0, .ref 74), (1, .int x1)] [] σ (0, 0)) := by
    intro n
    induction n with
    | zero => exact fun _ _ _ _ _ _ _ h8 => absurd h8 (Nat.not_lt_zero _)
    | succ n ih =>
      have ih10 := ih
      · intro x1 σ mσ fσ lx1 ux1 i0 hmu
        refine s_X12_putBack_10 C hN ?_
        refine ⟨?_, ?_⟩
        · intro q_1
          have b_2 : (6 : Int) ≤ x1.toInt := Int32.le_iff_toInt_le.mp q_1
          exact h9ret σ mσ fσ (by first | with_reducible assumption | with_reducible rfl | omega | assumption | rfl)
        · intro q_1
          have b_3 : ¬ (6 : Int) ≤ x1.toInt := fun h9 => q_1 (Int32.le_iff_toInt_le.mpr h9)
          have hv_4 : vp_in x1 6 := vp_in_iff.mpr ⟨by omega, by omega⟩
          refine ⟨hv_4, ?_⟩
          refine ⟨hv_4, ?_⟩
          intro σ4 eσ4
          have t_5 := MI_a134 mσ hv_4
          have mσ4 : MI σ4 := by rw [eσ4]; exact MIs_a105 mσ (by omega) (by omega)
          have fσ4 : Fr [74, 105, 106, 107, 108] [1] σ0 σ4 := by rw [eσ4]; exact Fr_si fσ (by decide +kernel) (fun h9 => absurd h9 (by decide +kernel))
          have k_6 : (gi σ4 74 1).toInt = (gi σ 74 1).toInt := gk_l eσ4 rfl
          have k_7 : (gi σ4 74 33).toInt = (gi σ 74 33).toInt := gk_l eσ4 rfl
          refine ⟨hv_4, ?_⟩
          refine ⟨hv_4, ?_⟩
          intro σ7 eσ7
          have mσ7 : MI σ7 := by rw [eσ7]; exact MIs_au (a := 106) mσ4 rfl rfl
          have fσ7 : Fr [74, 105, 106, 107, 108] [1] σ0 σ7 := by rw [eσ7]; exact Fr_si fσ4 (by decide +kernel) (fun h9 => absurd h9 (by decide +kernel))
          have k_8 : (gi σ7 74 1).toInt = (gi σ4 74 1).toInt := gk_l eσ7 rfl
          have k_9 : (gi σ7 74 33).toInt = (gi σ4 74 33).toInt := gk_l eσ7 rfl
          refine ⟨hv_4, ?_⟩
          refine ⟨hv_4, ?_⟩
          intro σ10 eσ10
          have mσ10 : MI σ10 := by rw [eσ10]; exact MIs_au (a := 107) mσ7 rfl rfl
          have fσ10 : Fr [74, 105, 106, 107, 108] [1] σ0 σ10 := by rw [eσ10]; exact Fr_si fσ7 (by decide +kernel) (fun h9 => absurd h9 (by decide +kernel))
          have k_10 : (gi σ10 74 1).toInt = (gi σ7 74 1).toInt := gk_l eσ10 rfl
          have k_11 : (gi σ10 74 33).toInt = (gi σ7 74 33).toInt := gk_l eσ10 rfl
          refine ⟨hv_4, ?_⟩
          refine ⟨hv_4, ?_⟩
          intro σ13 eσ13
          have mσ13 : MI σ13 := by rw [eσ13]; exact MIs_au (a := 108) mσ10 rfl rfl
          have fσ13 : Fr [74, 105, 106, 107, 108] [1] σ0 σ13 := by rw [eσ13]; exact Fr_si fσ10 (by decide +kernel) (fun h9 => absurd h9 (by decide +kernel))
          have k_12 : (gi σ13 74 1).toInt = (gi σ10 74 1).toInt := gk_l eσ13 rfl
          have k_13 : (gi σ13 74 33).toInt = (gi σ10 74 33).toInt := gk_l eσ13 rfl
          intro v14 ev14
          have t_14 : (x1 + (1 : Int32)).toInt = x1.toInt + 1 := i_add (x := x1) (y := (1 : Int32)) (by show (_ : Int) ≤ x1.toInt + 1; omega) (by show x1.toInt + 1 ≤ (_ : Int); omega)
          have t_15 : v14.toInt = (x1 + (1 : Int32)).toInt := congrArg Int32.toInt ev14
          exact ih10 v14 σ13 mσ13 fσ13 (by omega) (by omega) (by first | with_reducible assumption | with_reducible rfl | omega | assumption | rfl) (by omega)
  have U10 := T 9
  have f0 : Fr [74, 105, 106, 107, 108] [1] σ0 σ0 := Fr_rf
  refine s_X12_putBack_0 C hN ?_
  intro σ1 eσ1
  have t_16 := MI_f33 m0
  have mσ1 : MI σ1 := by rw [eσ1]; exact MIs_f1 m0 (by omega) (by omega)
  have fσ1 : Fr [74, 105, 106, 107, 108] [1] σ0 σ1 := by rw [eσ1]; exact Fr_si f0 (by decide +kernel) (fun _ => by decide +kernel)
  have k_17 : (gi σ1 74 1).toInt = (gi σ0 74 33).toInt := by rw [eσ1]; exact congrArg Int32.toInt gi_si_eq
  have k_18 : (gi σ1 74 33).toInt = (gi σ0 74 33).toInt := gk_r eσ1 rfl
  have z_19 : (0 : Int32).toInt = 0 := rfl
  exact U10 (0 : Int32) σ1 mσ1 fσ1 (by omega) (by omega) (by first | with_reducible assumption | with_reducible rfl | omega | assumption | rfl) (by omega)
set_option maxRecDepth 100000 in
set_option maxHeartbeats 4000000 in
theorem k_X12_all {l : Launch} {V : Vx} {σ0 : Sg} {Qk : Int32 → Sg → Prop} (m0 : MI σ0) (h9ret : ∀ (r : Int32) (σ' : Sg), MI σ' → Fr [] [] σ0 σ' → (0 ≤ r.toInt) → (r.toInt ≤ 59994) → Qk r σ') : K_X12_all l V σ0 Qk := by
  refine e_X12_all (fun M hl hV hN C => ?_)
  subst hl
  subst hV
  have T : ∀ n : Nat, (∀ (x1 : Int32) (x2 : Int32) (σ : Sg), MI σ → Fr [] [] σ0 σ → (0 ≤ x1.toInt) → (x1.toInt ≤ 59994) → (0 ≤ x2.toInt) → (x2.toInt ≤ 6) → (x1.toInt ≤ 9999 * x2.toInt) → (7 - x2.toInt).toNat < n → PS M 4 [(0, .ref 74), (1, .int x1), (2, .int x2)] [] σ (0, 0)) := by
    intro n
    induction n with
    | zero => exact fun _ _ _ _ _ _ _ _ _ _ h8 => absurd h8 (Nat.not_lt_zero _)
    | succ n ih =>
      have ih4 := ih
      · intro x1 x2 σ mσ fσ lx1 ux1 lx2 ux2 i0 hmu
        refine s_X12_all_4 C hN ?_
        refine ⟨?_, ?_⟩
        · intro q_1
          have t_2 := MI_f0 mσ
          have b_3 : (gi σ 74 0).toInt ≤ x2.toInt := Int32.le_iff_toInt_le.mp q_1
          exact h9ret x1 σ mσ fσ (by omega) (by omega)
        · intro q_1
          have t_4 := MI_f0 mσ
          have b_5 : ¬ (gi σ 74 0).toInt ≤ x2.toInt := fun h9 => q_1 (Int32.le_iff_toInt_le.mpr h9)
          have hv_6 : vp_in x2 6 := vp_in_iff.mpr ⟨by omega, by omega⟩
          refine ⟨hv_6, ?_⟩
          intro v3 ev3
          have t_7 := MI_a105 mσ hv_6
          have t_8 : (x1 + (gi σ 105 x2.toNatClampNeg)).toInt = x1.toInt + (gi σ 105 x2.toNatClampNeg).toInt := i_add (x := x1) (y := (gi σ 105 x2.toNatClampNeg)) (by show (_ : Int) ≤ x1.toInt + (gi σ 105 x2.toNatClampNeg).toInt; omega) (by show x1.toInt + (gi σ 105 x2.toNatClampNeg).toInt ≤ (_ : Int); omega)
          have t_9 : v3.toInt = (x1 + (gi σ 105 x2.toNatClampNeg)).toInt := congrArg Int32.toInt ev3
          intro v4 ev4
          have t_10 : (x2 + (1 : Int32)).toInt = x2.toInt + 1 := i_add (x := x2) (y := (1 : Int32)) (by show (_ : Int) ≤ x2.toInt + 1; omega) (by show x2.toInt + 1 ≤ (_ : Int); omega)
          have t_11 : v4.toInt = (x2 + (1 : Int32)).toInt := congrArg Int32.toInt ev4
          exact ih4 v3 v4 σ mσ fσ (by omega) (by omega) (by omega) (by omega) (by first | with_reducible assumption | with_reducible rfl | omega | assumption | rfl) (by omega)
  have U4 := T 9
  have f0 : Fr [] [] σ0 σ0 := Fr_rf
  refine s_X12_all_0 C hN ?_
  have z_12 : (0 : Int32).toInt = 0 := rfl
  exact U4 (0 : Int32) (0 : Int32) σ0 m0 f0 (by omega) (by omega) (by omega) (by omega) (by first | with_reducible assumption | with_reducible rfl | omega | assumption | rfl) (by omega)
set_option maxRecDepth 100000 in
set_option maxHeartbeats 4000000 in
theorem k_X12_set {l : Launch} {V : Vx} {a1 : Int32} {a2 : Int32} {a3 : Int32} {σ0 : Sg} {Qk : Int32 → Sg → Prop} (m0 : MI σ0) (h9ret : ∀ (r : Int32) (σ' : Sg), MI σ' → Fr [105, 106, 107, 108] [] σ0 σ' → Qk r σ') : K_X12_set l V a1 a2 a3 σ0 Qk := by
  refine e_X12_set (fun M hl hV hN C => ?_)
  subst hl
  subst hV
  have T : ∀ n : Nat, (∀ (x1 : Int32) (x2 : Int32) (x3 : Int32) (z0 : Int32) (z1 : Int32) (z2 : Int32) (σ : Sg), MI σ → Fr [105, 106, 107, 108] [] σ0 σ → (0 ≤ x1.toInt) → (x1.toInt ≤ 5) → (z1.toInt = 0) → (z2.toInt = x3.toInt) → ((x2.toInt = 0 ∧ z0.toInt = 9999) ∨ (¬ x2.toInt = 0 ∧ z0.toInt ≤ 99)) → 3 < n → PS M 45 [(0, .ref 74), (1, .int x1), (2, .int x2), (3, .int x3)] [.int z0, .int z1, .int z2, .ref 74] σ (0, 0)) ∧ (∀ (x1 : Int32) (x2 : Int32) (x3 : Int32) (x4 : Int32) (σ : Sg), MI σ → Fr [105, 106, 107, 108] [] σ0 σ → (0 ≤ x1.toInt) → (x1.toInt ≤ 5) → 2 < n → PS M 114 [(0, .ref 74), (1, .int x1), (2, .int x2), (3, .int x3), (4, .int x4)] [] σ (0, 0)) ∧ (∀ (x1 : Int32) (x2 : Int32) (x3 : Int32) (x4 : Int32) (σ : Sg), MI σ → Fr [105, 106, 107, 108] [] σ0 σ → (0 ≤ x1.toInt) → (x1.toInt ≤ 5) → 1 < n → PS M 138 [(0, .ref 74), (1, .int x1), (2, .int x2), (3, .int x3), (4, .int x4)] [] σ (0, 0)) := by
    intro n
    induction n with
    | zero => exact ⟨fun _ _ _ _ _ _ _ _ _ _ _ _ _ _ h8 => absurd h8 (Nat.not_lt_zero _), fun _ _ _ _ _ _ _ _ _ h8 => absurd h8 (Nat.not_lt_zero _), fun _ _ _ _ _ _ _ _ _ h8 => absurd h8 (Nat.not_lt_zero _)⟩
    | succ n ih =>
      obtain ⟨ih45, ih114, ih138⟩ := ih
      refine ⟨?_, ?_, ?_⟩
      · intro x1 x2 x3 z0 z1 z2 σ mσ fσ lx1 ux1 i0 i1 i2 hmu
        refine s_X12_set_45 C hN ?_
        refine k_X12_in mσ  (fun r2 σ1 mσ1 cσ1 plσ1 phσ1 (pσ1_0 : (r2.toInt = 1 ∧ z1.toInt ≤ z2.toInt ∧ z2.toInt ≤ z0.toInt) ∨ (r2.toInt = 0 ∧ (z2.toInt < z1.toInt ∨ z0.toInt < z2.toInt))) => ?_)
        obtain rfl := Fr_nil cσ1
        refine ⟨?_, ?_⟩
        · intro q_1
          have b_2 : ¬ r2.toInt = 0 := fun h9 => q_1 (Int32.toInt_inj.mp h9)
          refine ⟨?_, ?_⟩
          · intro q_3
            have w_4 := Int32.toInt_lt x2
            have w_5 := Int32.le_toInt x2
            have b_6 : ¬ x2.toInt = 0 := fun h9 => q_3 (Int32.toInt_inj.mp h9)
            refine ⟨?_, ?_⟩
            · intro q_7
              have b_8 : ¬ x2.toInt = 1 := fun h9 => q_7 (Int32.toInt_inj.mp h9)
              refine ⟨?_, ?_⟩
              · intro q_9
                have b_10 : ¬ x2.toInt = 2 := fun h9 => q_9 (Int32.toInt_inj.mp h9)
                have hv_11 : vp_in x1 6 := vp_in_iff.mpr ⟨by omega, by omega⟩
                refine ⟨hv_11, ?_⟩
                intro v8 ev8
                refine ⟨?_, ?_⟩
                · intro q_12
                  have b_13 : ¬ x2.toInt = 0 := fun h9 => q_12 (Int32.toInt_inj.mp h9)
                  exact ih114 x1 x2 x3 v8 σ mσ fσ (by omega) (by omega) (by omega)
                · intro q_12
                  have b_14 : x2.toInt = 0 := congrArg Int32.toInt q_12
                  refine ⟨hv_11, ?_⟩
                  intro σ11 eσ11
                  have w_15 := Int32.toInt_lt x3
                  have w_16 := Int32.le_toInt x3
                  have mσ11 : MI σ11 := by rw [eσ11]; exact MIs_a105 mσ (by omega) (by omega)
                  have fσ11 : Fr [105, 106, 107, 108] [] σ0 σ11 := by rw [eσ11]; exact Fr_si fσ (by decide +kernel) (fun h9 => absurd h9 (by decide +kernel))
                  exact ih114 x1 x2 x3 v8 σ11 mσ11 fσ11 (by omega) (by omega) (by omega)
              · intro q_9
                have b_17 : x2.toInt = 2 := congrArg Int32.toInt q_9
                have hv_18 : vp_in x1 6 := vp_in_iff.mpr ⟨by omega, by omega⟩
                refine ⟨hv_18, ?_⟩
                intro v13 ev13
                refine ⟨?_, ?_⟩
                · intro q_19
                  have b_20 : ¬ x2.toInt = 0 := fun h9 => q_19 (Int32.toInt_inj.mp h9)
                  exact ih114 x1 x2 x3 v13 σ mσ fσ (by omega) (by omega) (by omega)
                · intro q_19
                  have b_21 : x2.toInt = 0 := congrArg Int32.toInt q_19
                  refine ⟨hv_18, ?_⟩
                  intro σ16 eσ16
                  have w_22 := Int32.toInt_lt x3
                  have w_23 := Int32.le_toInt x3
                  have mσ16 : MI σ16 := by rw [eσ16]; exact MIs_a105 mσ (by omega) (by omega)
                  have fσ16 : Fr [105, 106, 107, 108] [] σ0 σ16 := by rw [eσ16]; exact Fr_si fσ (by decide +kernel) (fun h9 => absurd h9 (by decide +kernel))
                  exact ih114 x1 x2 x3 v13 σ16 mσ16 fσ16 (by omega) (by omega) (by omega)
            · intro q_7
              have b_24 : x2.toInt = 1 := congrArg Int32.toInt q_7
              have hv_25 : vp_in x1 6 := vp_in_iff.mpr ⟨by omega, by omega⟩
              refine ⟨hv_25, ?_⟩
              intro v18 ev18
              refine ⟨?_, ?_⟩
              · intro q_26
                have b_27 : ¬ x2.toInt = 0 := fun h9 => q_26 (Int32.toInt_inj.mp h9)
                exact ih114 x1 x2 x3 v18 σ mσ fσ (by omega) (by omega) (by omega)
              · intro q_26
                have b_28 : x2.toInt = 0 := congrArg Int32.toInt q_26
                refine ⟨hv_25, ?_⟩
                intro σ21 eσ21
                have w_29 := Int32.toInt_lt x3
                have w_30 := Int32.le_toInt x3
                have mσ21 : MI σ21 := by rw [eσ21]; exact MIs_a105 mσ (by omega) (by omega)
                have fσ21 : Fr [105, 106, 107, 108] [] σ0 σ21 := by rw [eσ21]; exact Fr_si fσ (by decide +kernel) (fun h9 => absurd h9 (by decide +kernel))
                exact ih114 x1 x2 x3 v18 σ21 mσ21 fσ21 (by omega) (by omega) (by omega)
          · intro q_3
            have w_31 := Int32.toInt_lt x2
            have w_32 := Int32.le_toInt x2
            have b_33 : x2.toInt = 0 := congrArg Int32.toInt q_3
            have hv_34 : vp_in x1 6 := vp_in_iff.mpr ⟨by omega, by omega⟩
            refine ⟨hv_34, ?_⟩
            intro v23 ev23
            have t_35 := MI_a105 mσ hv_34
            have t_36 : v23.toInt = (gi σ 105 x1.toNatClampNeg).toInt := congrArg Int32.toInt ev23
            refine ⟨?_, ?_⟩
            · intro q_37
              have b_38 : ¬ x2.toInt = 0 := fun h9 => q_37 (Int32.toInt_inj.mp h9)
              exact ih114 x1 x2 x3 v23 σ mσ fσ (by omega) (by omega) (by omega)
            · intro q_37
              have b_39 : x2.toInt = 0 := congrArg Int32.toInt q_37
              refine ⟨hv_34, ?_⟩
              intro σ26 eσ26
              have w_40 := Int32.toInt_lt x3
              have w_41 := Int32.le_toInt x3
              have mσ26 : MI σ26 := by rw [eσ26]; exact MIs_a105 mσ (by omega) (by omega)
              have fσ26 : Fr [105, 106, 107, 108] [] σ0 σ26 := by rw [eσ26]; exact Fr_si fσ (by decide +kernel) (fun h9 => absurd h9 (by decide +kernel))
              exact ih114 x1 x2 x3 v23 σ26 mσ26 fσ26 (by omega) (by omega) (by omega)
        · intro q_1
          have b_42 : r2.toInt = 0 := congrArg Int32.toInt q_1
          have z_43 : (-2 : Int32).toInt = -2 := rfl
          exact h9ret (-2 : Int32) σ mσ fσ
      · intro x1 x2 x3 x4 σ mσ fσ lx1 ux1 hmu
        refine s_X12_set_114 C hN ?_
        refine ⟨?_, ?_⟩
        · intro q_44
          have w_45 := Int32.toInt_lt x2
          have w_46 := Int32.le_toInt x2
          have b_47 : ¬ x2.toInt = 1 := fun h9 => q_44 (Int32.toInt_inj.mp h9)
          refine ⟨?_, ?_⟩
          · intro q_48
            have b_49 : ¬ x2.toInt = 2 := fun h9 => q_48 (Int32.toInt_inj.mp h9)
            exact ih138 x1 x2 x3 x4 σ mσ fσ (by omega) (by omega) (by omega)
          · intro q_48
            have b_50 : x2.toInt = 2 := congrArg Int32.toInt q_48
            have hv_51 : vp_in x1 6 := vp_in_iff.mpr ⟨by omega, by omega⟩
            refine ⟨hv_51, ?_⟩
            intro σ4 eσ4
            have mσ4 : MI σ4 := by rw [eσ4]; exact MIs_au (a := 107) mσ rfl rfl
            have fσ4 : Fr [105, 106, 107, 108] [] σ0 σ4 := by rw [eσ4]; exact Fr_si fσ (by decide +kernel) (fun h9 => absurd h9 (by decide +kernel))
            exact ih138 x1 x2 x3 x4 σ4 mσ4 fσ4 (by omega) (by omega) (by omega)
        · intro q_44
          have w_52 := Int32.toInt_lt x2
          have w_53 := Int32.le_toInt x2
          have b_54 : x2.toInt = 1 := congrArg Int32.toInt q_44
          have hv_55 : vp_in x1 6 := vp_in_iff.mpr ⟨by omega, by omega⟩
          refine ⟨hv_55, ?_⟩
          intro σ6 eσ6
          have mσ6 : MI σ6 := by rw [eσ6]; exact MIs_au (a := 106) mσ rfl rfl
          have fσ6 : Fr [105, 106, 107, 108] [] σ0 σ6 := by rw [eσ6]; exact Fr_si fσ (by decide +kernel) (fun h9 => absurd h9 (by decide +kernel))
          refine ⟨?_, ?_⟩
          · intro q_56
            have b_57 : ¬ x2.toInt = 2 := fun h9 => q_56 (Int32.toInt_inj.mp h9)
            exact ih138 x1 x2 x3 x4 σ6 mσ6 fσ6 (by omega) (by omega) (by omega)
          · intro q_56
            have b_58 : x2.toInt = 2 := congrArg Int32.toInt q_56
            refine ⟨hv_55, ?_⟩
            intro σ9 eσ9
            have mσ9 : MI σ9 := by rw [eσ9]; exact MIs_au (a := 107) mσ6 rfl rfl
            have fσ9 : Fr [105, 106, 107, 108] [] σ0 σ9 := by rw [eσ9]; exact Fr_si fσ6 (by decide +kernel) (fun h9 => absurd h9 (by decide +kernel))
            exact ih138 x1 x2 x3 x4 σ9 mσ9 fσ9 (by omega) (by omega) (by omega)
      · intro x1 x2 x3 x4 σ mσ fσ lx1 ux1 hmu
        refine s_X12_set_138 C hN ?_
        refine ⟨?_, ?_⟩
        · intro q_59
          have w_60 := Int32.toInt_lt x2
          have w_61 := Int32.le_toInt x2
          have b_62 : ¬ x2.toInt = 3 := fun h9 => q_59 (Int32.toInt_inj.mp h9)
          exact h9ret x4 σ mσ fσ
        · intro q_59
          have w_63 := Int32.toInt_lt x2
          have w_64 := Int32.le_toInt x2
          have b_65 : x2.toInt = 3 := congrArg Int32.toInt q_59
          have hv_66 : vp_in x1 6 := vp_in_iff.mpr ⟨by omega, by omega⟩
          refine ⟨hv_66, ?_⟩
          intro σ3 eσ3
          have mσ3 : MI σ3 := by rw [eσ3]; exact MIs_au (a := 108) mσ rfl rfl
          have fσ3 : Fr [105, 106, 107, 108] [] σ0 σ3 := by rw [eσ3]; exact Fr_si fσ (by decide +kernel) (fun h9 => absurd h9 (by decide +kernel))
          exact h9ret x4 σ3 mσ3 fσ3
  obtain ⟨U45, U114, U138⟩ := T 9
  have f0 : Fr [105, 106, 107, 108] [] σ0 σ0 := Fr_rf
  refine s_X12_set_0 C hN ?_
  refine k_X12_isMower m0  (fun r2 σ1 mσ1 cσ1 plσ1 phσ1 (pσ1_0 : (r2.toInt = 1 ∧ 0 ≤ a1.toInt ∧ a1.toInt < (gi σ0 74 0).toInt) ∨ (r2.toInt = 0 ∧ (a1.toInt < 0 ∨ (gi σ0 74 0).toInt ≤ a1.toInt))) => ?_)
  obtain rfl := Fr_nil cσ1
  have t_67 := MI_f0 m0
  refine ⟨?_, ?_⟩
  · intro q_68
    have b_69 : r2.toInt = 0 := congrArg Int32.toInt q_68
    have z_70 : (-1 : Int32).toInt = -1 := rfl
    exact h9ret (-1 : Int32) σ0 m0 f0
  · intro q_68
    have b_71 : ¬ r2.toInt = 0 := fun h9 => q_68 (Int32.toInt_inj.mp h9)
    refine k_X12_in m0  (fun r5 σ4 mσ4 cσ4 plσ4 phσ4 (pσ4_0 : (r5.toInt = 1 ∧ (0 : Int) ≤ a2.toInt ∧ a2.toInt ≤ (3 : Int)) ∨ (r5.toInt = 0 ∧ (a2.toInt < (0 : Int) ∨ (3 : Int) < a2.toInt))) => ?_)
    obtain rfl := Fr_nil cσ4
    refine ⟨?_, ?_⟩
    · intro q_72
      have b_73 : ¬ r5.toInt = 0 := fun h9 => q_72 (Int32.toInt_inj.mp h9)
      refine ⟨?_, ?_⟩
      · intro q_74
        have w_75 := Int32.toInt_lt a2
        have w_76 := Int32.le_toInt a2
        have b_77 : ¬ a2.toInt = 0 := fun h9 => q_74 (Int32.toInt_inj.mp h9)
        refine ⟨?_, ?_⟩
        · intro q_78
          have b_79 : ¬ a2.toInt = 1 := fun h9 => q_78 (Int32.toInt_inj.mp h9)
          have z_80 : (99 : Int32).toInt = 99 := rfl
          have z_81 : (0 : Int32).toInt = 0 := rfl
          exact U45 a1 a2 a3 (99 : Int32) (0 : Int32) a3 σ0 m0 f0 (by omega) (by omega) (by first | with_reducible assumption | with_reducible rfl | omega | assumption | rfl) (by first | with_reducible assumption | with_reducible rfl | omega | assumption | rfl) (by first | with_reducible assumption | with_reducible rfl | omega | assumption | rfl) (by omega)
        · intro q_78
          have b_82 : a2.toInt = 1 := congrArg Int32.toInt q_78
          have z_83 : (10 : Int32).toInt = 10 := rfl
          have z_84 : (0 : Int32).toInt = 0 := rfl
          exact U45 a1 a2 a3 (10 : Int32) (0 : Int32) a3 σ0 m0 f0 (by omega) (by omega) (by first | with_reducible assumption | with_reducible rfl | omega | assumption | rfl) (by first | with_reducible assumption | with_reducible rfl | omega | assumption | rfl) (by first | with_reducible assumption | with_reducible rfl | omega | assumption | rfl) (by omega)
      · intro q_74
        have w_85 := Int32.toInt_lt a2
        have w_86 := Int32.le_toInt a2
        have b_87 : a2.toInt = 0 := congrArg Int32.toInt q_74
        have z_88 : (9999 : Int32).toInt = 9999 := rfl
        have z_89 : (0 : Int32).toInt = 0 := rfl
        exact U45 a1 a2 a3 (9999 : Int32) (0 : Int32) a3 σ0 m0 f0 (by omega) (by omega) (by first | with_reducible assumption | with_reducible rfl | omega | assumption | rfl) (by first | with_reducible assumption | with_reducible rfl | omega | assumption | rfl) (by first | with_reducible assumption | with_reducible rfl | omega | assumption | rfl) (by omega)
    · intro q_72
      have b_90 : r5.toInt = 0 := congrArg Int32.toInt q_72
      have z_91 : (-1 : Int32).toInt = -1 := rfl
      exact h9ret (-1 : Int32) σ0 m0 f0
set_option maxRecDepth 100000 in
set_option maxHeartbeats 4000000 in
theorem k_X12_lastOf {l : Launch} {V : Vx} {a1 : Int32} {a2 : Int32} {σ0 : Sg} {Qk : Int32 → Sg → Prop} (m0 : MI σ0) (h9ret : ∀ (r : Int32) (σ' : Sg), MI σ' → Fr [] [] σ0 σ' → Qk r σ') : K_X12_lastOf l V a1 a2 σ0 Qk := by
  refine e_X12_lastOf (fun M hl hV hN C => ?_)
  subst hl
  subst hV
  have T : ∀ n : Nat, (∀ (x1 : Int32) (x3 : Int32) (x4 : Int32) (σ : Sg), MI σ → Fr [] [] σ0 σ → (0 ≤ x4.toInt) → (x4.toInt ≤ 60) → (61 - x4.toInt).toNat < n → PS M 8 [(0, .ref 74), (1, .int x1), (3, .int x3), (4, .int x4)] [] σ (0, 0)) := by
    intro n
    induction n with
    | zero => exact fun _ _ _ _ _ _ _ _ h8 => absurd h8 (Nat.not_lt_zero _)
    | succ n ih =>
      have ih8 := ih
      · intro x1 x3 x4 σ mσ fσ lx4 ux4 hmu
        refine s_X12_lastOf_8 C hN ?_
        refine k_X12_behind mσ  (fun r2 σ1 mσ1 cσ1 plσ1 phσ1 (pσ1_0 : ((gi σ 74 12).toInt < 0 ∧ r2.toInt = 0) ∨ (0 ≤ (gi σ 74 12).toInt ∧ r2.toInt = 10 * (gi σ 74 12).toInt + (gi σ 117 (gi σ 74 12).toNatClampNeg).toInt)) => ?_)
        obtain rfl := Fr_nil cσ1
        have t_1 := MI_f12 mσ
        refine ⟨?_, ?_⟩
        · intro q_2
          have b_3 : r2.toInt ≤ x4.toInt := Int32.le_iff_toInt_le.mp q_2
          exact h9ret x3 σ mσ fσ
        · intro q_2
          have b_4 : ¬ r2.toInt ≤ x4.toInt := fun h9 => q_2 (Int32.le_iff_toInt_le.mpr h9)
          have hv_5 : vp_in x4 60 := vp_in_iff.mpr ⟨by omega, by omega⟩
          refine ⟨hv_5, ?_⟩
          refine ⟨?_, ?_⟩
          · intro q_6
            have w_7 := Int32.toInt_lt x1
            have w_8 := Int32.le_toInt x1
            have b_9 : ¬ (gi σ 118 x4.toNatClampNeg).toInt = x1.toInt := fun h9 => q_6 (Int32.toInt_inj.mp h9)
            intro v6 ev6
            have t_10 : (x4 + (1 : Int32)).toInt = x4.toInt + 1 := i_add (x := x4) (y := (1 : Int32)) (by show (_ : Int) ≤ x4.toInt + 1; omega) (by show x4.toInt + 1 ≤ (_ : Int); omega)
            have t_11 : v6.toInt = (x4 + (1 : Int32)).toInt := congrArg Int32.toInt ev6
            exact ih8 x1 x3 v6 σ mσ fσ (by omega) (by omega) (by omega)
          · intro q_6
            have w_12 := Int32.toInt_lt x1
            have w_13 := Int32.le_toInt x1
            have b_14 : (gi σ 118 x4.toNatClampNeg).toInt = x1.toInt := congrArg Int32.toInt q_6
            refine ⟨hv_5, ?_⟩
            intro v8 ev8
            intro v9 ev9
            have t_15 : (x4 + (1 : Int32)).toInt = x4.toInt + 1 := i_add (x := x4) (y := (1 : Int32)) (by show (_ : Int) ≤ x4.toInt + 1; omega) (by show x4.toInt + 1 ≤ (_ : Int); omega)
            have t_16 : v9.toInt = (x4 + (1 : Int32)).toInt := congrArg Int32.toInt ev9
            exact ih8 x1 v8 v9 σ mσ fσ (by omega) (by omega) (by omega)
  have U8 := T 90
  have f0 : Fr [] [] σ0 σ0 := Fr_rf
  refine s_X12_lastOf_0 C hN ?_
  refine k_X12_begin m0  (fun r2 σ1 mσ1 cσ1 plσ1 phσ1 (pσ1_0 : ((gi σ0 74 12).toInt < 0 ∧ r2.toInt = 0) ∨ (0 ≤ (gi σ0 74 12).toInt ∧ r2.toInt = 10 * (gi σ0 74 12).toInt)) => ?_)
  obtain rfl := Fr_nil cσ1
  have t_17 := MI_f12 m0
  exact U8 a1 a2 r2 σ0 m0 f0 (by omega) (by omega) (by omega)
set_option maxRecDepth 100000 in
set_option maxHeartbeats 4000000 in
theorem k_X12_gap {l : Launch} {V : Vx} {σ0 : Sg} {Qk : Int32 → Sg → Prop} (m0 : MI σ0) (h9ret : ∀ (r : Int32) (σ' : Sg), MI σ' → Fr [] [] σ0 σ' → Qk r σ') : K_X12_gap l V σ0 Qk := by
  refine e_X12_gap (fun M hl hV hN C => ?_)
  subst hl
  subst hV
  have f0 : Fr [] [] σ0 σ0 := Fr_rf
  refine s_X12_gap_0 C hN ?_
  refine ⟨?_, ?_⟩
  · intro q_1
    have b_2 : (0 : Int) ≤ (gi σ0 74 28).toInt := Int32.le_iff_toInt_le.mp q_1
    exact h9ret (gi σ0 74 28) σ0 m0 f0
  · intro q_1
    have b_3 : ¬ (0 : Int) ≤ (gi σ0 74 28).toInt := fun h9 => q_1 (Int32.le_iff_toInt_le.mpr h9)
    refine k_X12_lastOf m0  (fun r3 σ2 mσ2 cσ2 => ?_)
    obtain rfl := Fr_nil cσ2
    exact h9ret r3 σ0 m0 f0
set_option maxRecDepth 100000 in
set_option maxHeartbeats 4000000 in
theorem k_X12_fieldLong {l : Launch} {V : Vx} {σ0 : Sg} {Qk : Int32 → Sg → Prop} (m0 : MI σ0) (h9ret : ∀ (r : Int32) (σ' : Sg), MI σ' → Fr [] [] σ0 σ' → Qk r σ') : K_X12_fieldLong l V σ0 Qk := by
  refine e_X12_fieldLong (fun M hl hV hN C => ?_)
  subst hl
  subst hV
  have f0 : Fr [] [] σ0 σ0 := Fr_rf
  refine s_X12_fieldLong_0 C hN ?_
  refine k_X12_lastOf m0  (fun r2 σ1 mσ1 cσ1 => ?_)
  obtain rfl := Fr_nil cσ1
  refine k_X12_most m0  (fun r4 σ3 mσ3 cσ3 (pσ3_0 : (1 : Int) ≤ r4.toInt ∧ r2.toInt ≤ r4.toInt ∧ (r4.toInt = (1 : Int) ∨ r4.toInt = r2.toInt)) => ?_)
  obtain rfl := Fr_nil cσ3
  exact h9ret r4 σ0 m0 f0
set_option maxRecDepth 100000 in
set_option maxHeartbeats 4000000 in
theorem k_X12_factOf {l : Launch} {V : Vx} {a1 : Int32} {a2 : Int32} {σ0 : Sg} {Qk : Int32 → Sg → Prop} (m0 : MI σ0) (l_a2 : 0 ≤ a2.toInt) (u_a2 : a2.toInt ≤ 5) (h9ret : ∀ (r : Int32) (σ' : Sg), MI σ' → Fr [] [] σ0 σ' → Qk r σ') : K_X12_factOf l V a1 a2 σ0 Qk := by
  refine e_X12_factOf (fun M hl hV hN C => ?_)
  subst hl
  subst hV
  have f0 : Fr [] [] σ0 σ0 := Fr_rf
  refine s_X12_factOf_0 C hN ?_
  refine ⟨?_, ?_, ?_, ?_, ?_, ?_⟩
  · intro q_1
    exact h9ret ((gi σ0 74 1) - (gi σ0 74 1) / (10 : Int32) * (10 : Int32)) σ0 m0 f0
  · intro q_1
    exact h9ret a2 σ0 m0 f0
  · intro q_1
    have hv_2 : vp_in a2 6 := vp_in_iff.mpr ⟨by omega, by omega⟩
    refine ⟨hv_2, ?_⟩
    exact h9ret (gi σ0 103 a2.toNatClampNeg) σ0 m0 f0
  · intro q_1
    exact h9ret (gi σ0 74 30) σ0 m0 f0
  · intro q_1
    have hv_3 : vp_in a2 6 := vp_in_iff.mpr ⟨by omega, by omega⟩
    refine ⟨hv_3, ?_⟩
    exact h9ret (gi σ0 106 a2.toNatClampNeg) σ0 m0 f0
  · intro q_1
    have hv_4 : vp_in a2 6 := vp_in_iff.mpr ⟨by omega, by omega⟩
    refine ⟨hv_4, ?_⟩
    exact h9ret ((gi σ0 107 a2.toNatClampNeg) / (10 : Int32)) σ0 m0 f0
set_option maxRecDepth 100000 in
set_option maxHeartbeats 4000000 in
theorem k_X12_hasty {l : Launch} {V : Vx} {a1 : Int32} {a2 : Int32} {σ0 : Sg} {Qk : Int32 → Sg → Prop} (m0 : MI σ0) (l_a1 : 0 ≤ a1.toInt) (u_a1 : a1.toInt ≤ 5) (h9ret : ∀ (r : Int32) (σ' : Sg), MI σ' → Fr [] [] σ0 σ' → Qk r σ') : K_X12_hasty l V a1 a2 σ0 Qk := by
  refine e_X12_hasty (fun M hl hV hN C => ?_)
  subst hl
  subst hV
  have f0 : Fr [] [] σ0 σ0 := Fr_rf
  refine s_X12_hasty_0 C hN ?_
  have hv_1 : vp_in a1 6 := vp_in_iff.mpr ⟨by omega, by omega⟩
  refine ⟨hv_1, ?_⟩
  refine ⟨?_, ?_⟩
  · intro q_2
    have b_3 : (gi σ0 106 a1.toNatClampNeg).toInt ≤ 5 := Int32.le_iff_toInt_le.mp q_2
    exact h9ret a2 σ0 m0 f0
  · intro q_2
    have b_4 : ¬ (gi σ0 106 a1.toNatClampNeg).toInt ≤ 5 := fun h9 => q_2 (Int32.le_iff_toInt_le.mpr h9)
    refine ⟨hv_1, ?_⟩
    exact h9ret (a2 + (gi σ0 104 a1.toNatClampNeg)) σ0 m0 f0
set_option maxRecDepth 100000 in
set_option maxHeartbeats 4000000 in
theorem k_X12_isPressed {l : Launch} {V : Vx} {a1 : Int32} {σ0 : Sg} {Qk : Int32 → Sg → Prop} (m0 : MI σ0) (l_a1 : 0 ≤ a1.toInt) (u_a1 : a1.toInt ≤ 5) (h9ret : ∀ (r : Int32) (σ' : Sg), MI σ' → Fr [] [] σ0 σ' → (0 ≤ r.toInt) → (r.toInt ≤ 1) → Qk r σ') : K_X12_isPressed l V a1 σ0 Qk := by
  refine e_X12_isPressed (fun M hl hV hN C => ?_)
  subst hl
  subst hV
  have f0 : Fr [] [] σ0 σ0 := Fr_rf
  refine s_X12_isPressed_0 C hN ?_
  refine ⟨?_, ?_⟩
  · intro q_1
    have t_2 := MI_f2 m0
    have t_3 : (a1 + (1 : Int32)).toInt = a1.toInt + 1 := i_add (x := a1) (y := (1 : Int32)) (by show (_ : Int) ≤ a1.toInt + 1; omega) (by show a1.toInt + 1 ≤ (_ : Int); omega)
    have b_4 : (gi σ0 74 2).toInt ≤ (a1 + (1 : Int32)).toInt := Int32.le_iff_toInt_le.mp q_1
    have z_5 : (0 : Int32).toInt = 0 := rfl
    exact h9ret (0 : Int32) σ0 m0 f0 (by omega) (by omega)
  · intro q_1
    have t_6 := MI_f2 m0
    have t_7 : (a1 + (1 : Int32)).toInt = a1.toInt + 1 := i_add (x := a1) (y := (1 : Int32)) (by show (_ : Int) ≤ a1.toInt + 1; omega) (by show a1.toInt + 1 ≤ (_ : Int); omega)
    have b_8 : ¬ (gi σ0 74 2).toInt ≤ (a1 + (1 : Int32)).toInt := fun h9 => q_1 (Int32.le_iff_toInt_le.mpr h9)
    have hv_9 : vp_in a1 6 := vp_in_iff.mpr ⟨by omega, by omega⟩
    refine ⟨hv_9, ?_⟩
    have t_10 := MI_a110 m0 hv_9
    have hv_11 : vp_in (gi σ0 110 a1.toNatClampNeg) 6 := vp_in_iff.mpr ⟨by omega, by omega⟩
    refine ⟨hv_11, ?_⟩
    have hv_12 : vp_in (a1 + (1 : Int32)) 6 := vp_in_iff.mpr ⟨by omega, by omega⟩
    refine ⟨hv_12, ?_⟩
    have t_13 := MI_a110 m0 hv_12
    have hv_14 : vp_in (gi σ0 110 (a1 + (1 : Int32)).toNatClampNeg) 6 := vp_in_iff.mpr ⟨by omega, by omega⟩
    refine ⟨hv_14, ?_⟩
    refine k_X12_gap m0  (fun r7 σ6 mσ6 cσ6 => ?_)
    obtain rfl := Fr_nil cσ6
    refine ⟨?_, ?_⟩
    · intro q_15
      have w_16 := Int32.toInt_lt r7
      have w_17 := Int32.le_toInt r7
      try have t_18 : (r7 + (3 : Int32)).toInt = r7.toInt + 3 := i_add (x := r7) (y := (3 : Int32)) (by show (_ : Int) ≤ r7.toInt + 3; omega) (by show r7.toInt + 3 ≤ (_ : Int); omega)
      have t_19 := MI_a105 m0 hv_11
      have t_20 := MI_a105 m0 hv_14
      have t_21 : ((gi σ0 105 (gi σ0 110 a1.toNatClampNeg).toNatClampNeg) - (gi σ0 105 (gi σ0 110 (a1 + (1 : Int32)).toNatClampNeg).toNatClampNeg)).toInt = (gi σ0 105 (gi σ0 110 a1.toNatClampNeg).toNatClampNeg).toInt - (gi σ0 105 (gi σ0 110 (a1 + (1 : Int32)).toNatClampNeg).toNatClampNeg).toInt := i_sub (x := (gi σ0 105 (gi σ0 110 a1.toNatClampNeg).toNatClampNeg)) (y := (gi σ0 105 (gi σ0 110 (a1 + (1 : Int32)).toNatClampNeg).toNatClampNeg)) (by show (_ : Int) ≤ (gi σ0 105 (gi σ0 110 a1.toNatClampNeg).toNatClampNeg).toInt - (gi σ0 105 (gi σ0 110 (a1 + (1 : Int32)).toNatClampNeg).toNatClampNeg).toInt; omega) (by show (gi σ0 105 (gi σ0 110 a1.toNatClampNeg).toNatClampNeg).toInt - (gi σ0 105 (gi σ0 110 (a1 + (1 : Int32)).toNatClampNeg).toNatClampNeg).toInt ≤ (_ : Int); omega)
      have b_22 : (r7 + (3 : Int32)).toInt ≤ ((gi σ0 105 (gi σ0 110 a1.toNatClampNeg).toNatClampNeg) - (gi σ0 105 (gi σ0 110 (a1 + (1 : Int32)).toNatClampNeg).toNatClampNeg)).toInt := Int32.le_iff_toInt_le.mp q_15
      have z_23 : (0 : Int32).toInt = 0 := rfl
      exact h9ret (0 : Int32) σ0 m0 f0 (by omega) (by omega)
    · intro q_15
      have w_24 := Int32.toInt_lt r7
      have w_25 := Int32.le_toInt r7
      try have t_26 : (r7 + (3 : Int32)).toInt = r7.toInt + 3 := i_add (x := r7) (y := (3 : Int32)) (by show (_ : Int) ≤ r7.toInt + 3; omega) (by show r7.toInt + 3 ≤ (_ : Int); omega)
      have t_27 := MI_a105 m0 hv_11
      have t_28 := MI_a105 m0 hv_14
      have t_29 : ((gi σ0 105 (gi σ0 110 a1.toNatClampNeg).toNatClampNeg) - (gi σ0 105 (gi σ0 110 (a1 + (1 : Int32)).toNatClampNeg).toNatClampNeg)).toInt = (gi σ0 105 (gi σ0 110 a1.toNatClampNeg).toNatClampNeg).toInt - (gi σ0 105 (gi σ0 110 (a1 + (1 : Int32)).toNatClampNeg).toNatClampNeg).toInt := i_sub (x := (gi σ0 105 (gi σ0 110 a1.toNatClampNeg).toNatClampNeg)) (y := (gi σ0 105 (gi σ0 110 (a1 + (1 : Int32)).toNatClampNeg).toNatClampNeg)) (by show (_ : Int) ≤ (gi σ0 105 (gi σ0 110 a1.toNatClampNeg).toNatClampNeg).toInt - (gi σ0 105 (gi σ0 110 (a1 + (1 : Int32)).toNatClampNeg).toNatClampNeg).toInt; omega) (by show (gi σ0 105 (gi σ0 110 a1.toNatClampNeg).toNatClampNeg).toInt - (gi σ0 105 (gi σ0 110 (a1 + (1 : Int32)).toNatClampNeg).toNatClampNeg).toInt ≤ (_ : Int); omega)
      have b_30 : ¬ (r7 + (3 : Int32)).toInt ≤ ((gi σ0 105 (gi σ0 110 a1.toNatClampNeg).toNatClampNeg) - (gi σ0 105 (gi σ0 110 (a1 + (1 : Int32)).toNatClampNeg).toNatClampNeg)).toInt := fun h9 => q_15 (Int32.le_iff_toInt_le.mpr h9)
      have z_31 : (1 : Int32).toInt = 1 := rfl
      exact h9ret (1 : Int32) σ0 m0 f0 (by omega) (by omega)
set_option maxRecDepth 100000 in
set_option maxHeartbeats 4000000 in
theorem k_X12_strideOf {l : Launch} {V : Vx} {a1 : Int32} {a2 : Int32} {a3 : Int32} {σ0 : Sg} {Qk : Int32 → Sg → Prop} (m0 : MI σ0) (l_a1 : 0 ≤ a1.toInt) (u_a1 : a1.toInt ≤ 5) (l_a2 : 0 ≤ a2.toInt) (u_a2 : a2.toInt ≤ 5) (h9ret : ∀ (r : Int32) (σ' : Sg), MI σ' → Fr [] [] σ0 σ' → Qk r σ') : K_X12_strideOf l V a1 a2 a3 σ0 Qk := by
  refine e_X12_strideOf (fun M hl hV hN C => ?_)
  subst hl
  subst hV
  have f0 : Fr [] [] σ0 σ0 := Fr_rf
  refine s_X12_strideOf_0 C hN ?_
  have hv_1 : vp_in a2 6 := vp_in_iff.mpr ⟨by omega, by omega⟩
  refine ⟨hv_1, ?_⟩
  refine k_X12_most m0  (fun r3 σ2 mσ2 cσ2 (pσ2_0 : (0 : Int) ≤ r3.toInt ∧ (a3 - ((gi σ0 107 a2.toNatClampNeg) / (20 : Int32))).toInt ≤ r3.toInt ∧ (r3.toInt = (0 : Int) ∨ r3.toInt = (a3 - ((gi σ0 107 a2.toNatClampNeg) / (20 : Int32))).toInt)) => ?_)
  obtain rfl := Fr_nil cσ2
  refine ⟨hv_1, ?_⟩
  refine ⟨?_, ?_, ?_, ?_, ?_, ?_, ?_⟩
  · intro q_2
    exact h9ret r3 σ0 m0 f0
  · intro q_2
    exact h9ret a3 σ0 m0 f0
  · intro q_2
    refine k_X12_hasty m0 (by omega) (by omega) (fun r7 σ6 mσ6 cσ6 => ?_)
    obtain rfl := Fr_nil cσ6
    exact h9ret r7 σ0 m0 f0
  · intro q_2
    exact h9ret (r3 / (2 : Int32)) σ0 m0 f0
  · intro q_2
    refine ⟨hv_1, ?_⟩
    exact h9ret (a3 - ((gi σ0 104 a2.toNatClampNeg) / (3 : Int32))) σ0 m0 f0
  · intro q_2
    refine k_X12_hasty m0 (by omega) (by omega) (fun r10 σ9 mσ9 cσ9 => ?_)
    obtain rfl := Fr_nil cσ9
    refine k_X12_isPressed m0 (by omega) (by omega) (fun r12 σ11 mσ11 cσ11 plσ11 phσ11 => ?_)
    obtain rfl := Fr_nil cσ11
    refine ⟨?_, ?_⟩
    · intro q_3
      have b_4 : r12.toInt = 0 := congrArg Int32.toInt q_3
      exact h9ret (r10 + (0 : Int32)) σ0 m0 f0
    · intro q_3
      have b_5 : ¬ r12.toInt = 0 := fun h9 => q_3 (Int32.toInt_inj.mp h9)
      exact h9ret (r10 + (2 : Int32)) σ0 m0 f0
  · intro q_2
    have t_6 : ((4 : Int32) * a2).toInt = 4 * a2.toInt := i_mull rfl (by omega) (by omega)
    have t_7 := MI_f1 m0
    have t_8 : ((gi σ0 74 1) - (((gi σ0 74 1) / (4 : Int32)) * (4 : Int32))).toInt = (gi σ0 74 1).toInt % 4 := i_rem (by omega) (by decide +kernel) rfl
    have t_9 : (((4 : Int32) * a2) + ((gi σ0 74 1) - (((gi σ0 74 1) / (4 : Int32)) * (4 : Int32)))).toInt = ((4 : Int32) * a2).toInt + ((gi σ0 74 1) - (((gi σ0 74 1) / (4 : Int32)) * (4 : Int32))).toInt := i_add (x := ((4 : Int32) * a2)) (y := ((gi σ0 74 1) - (((gi σ0 74 1) / (4 : Int32)) * (4 : Int32)))) (by show (_ : Int) ≤ ((4 : Int32) * a2).toInt + ((gi σ0 74 1) - (((gi σ0 74 1) / (4 : Int32)) * (4 : Int32))).toInt; omega) (by show ((4 : Int32) * a2).toInt + ((gi σ0 74 1) - (((gi σ0 74 1) / (4 : Int32)) * (4 : Int32))).toInt ≤ (_ : Int); omega)
    have hv_10 : vp_in (((4 : Int32) * a2) + ((gi σ0 74 1) - (gi σ0 74 1) / (4 : Int32) * (4 : Int32))) 24 := vp_in_iff.mpr ⟨by omega, by omega⟩
    refine ⟨hv_10, ?_⟩
    exact h9ret ((r3 / (2 : Int32)) + (gi σ0 109 (((4 : Int32) * a2) + ((gi σ0 74 1) - (gi σ0 74 1) / (4 : Int32) * (4 : Int32))).toNatClampNeg)) σ0 m0 f0
set_option maxRecDepth 100000 in
set_option maxHeartbeats 4000000 in
theorem k_X12_goWhet {l : Launch} {V : Vx} {σ0 : Sg} {Qk : Sg → Prop} (m0 : MI σ0) (pre0 : (gi σ0 74 1).toInt ≤ 18000) (h9ret : ∀ (σ' : Sg), MI σ' → Fr [74, 106, 107, 108] [1] σ0 σ' → ((gi σ' 74 1).toInt = (gi σ0 74 1).toInt + 1) → Qk σ') : K_X12_goWhet l V σ0 Qk := by
  refine e_X12_goWhet (fun M hl hV hN C => ?_)
  subst hl
  subst hV
  have T : ∀ n : Nat, (∀ (x1 : Int32) (σ : Sg), MI σ → Fr [74, 106, 107, 108] [1] σ0 σ → (0 ≤ x1.toInt) → (x1.toInt ≤ 6) → ((gi σ 74 1).toInt = (gi σ0 74 1).toInt) → (7 - x1.toInt).toNat < n → PS M 2 [(0, .ref 74), (1, .int x1)] [] σ (0, 0)) := by
    intro n
    induction n with
    | zero => exact fun _ _ _ _ _ _ _ h8 => absurd h8 (Nat.not_lt_zero _)
    | succ n ih =>
      have ih2 := ih
      · intro x1 σ mσ fσ lx1 ux1 i0 hmu
        refine s_X12_goWhet_2 C hN ?_
        refine ⟨?_, ?_⟩
        · intro q_1
          have t_2 := MI_f0 mσ
          have b_3 : (gi σ 74 0).toInt ≤ x1.toInt := Int32.le_iff_toInt_le.mp q_1
          intro σ2 eσ2
          have t_4 := MI_f1 mσ
          have t_5 : ((gi σ 74 1) + (1 : Int32)).toInt = (gi σ 74 1).toInt + 1 := i_add (x := (gi σ 74 1)) (y := (1 : Int32)) (by show (_ : Int) ≤ (gi σ 74 1).toInt + 1; omega) (by show (gi σ 74 1).toInt + 1 ≤ (_ : Int); omega)
          have mσ2 : MI σ2 := by rw [eσ2]; exact MIs_f1 mσ (by omega) (by omega)
          have fσ2 : Fr [74, 106, 107, 108] [1] σ0 σ2 := by rw [eσ2]; exact Fr_si fσ (by decide +kernel) (fun _ => by decide +kernel)
          have k_6 : (gi σ2 74 0).toInt = (gi σ 74 0).toInt := gk_r eσ2 rfl
          have k_7 : (gi σ2 74 1).toInt = ((gi σ 74 1) + (1 : Int32)).toInt := by rw [eσ2]; exact congrArg Int32.toInt gi_si_eq
          exact h9ret σ2 mσ2 fσ2 (by first | with_reducible assumption | with_reducible rfl | omega | assumption | rfl)
        · intro q_1
          have t_8 := MI_f0 mσ
          have b_9 : ¬ (gi σ 74 0).toInt ≤ x1.toInt := fun h9 => q_1 (Int32.le_iff_toInt_le.mpr h9)
          have hv_10 : vp_in x1 6 := vp_in_iff.mpr ⟨by omega, by omega⟩
          refine ⟨hv_10, ?_⟩
          intro σ4 eσ4
          have mσ4 : MI σ4 := by rw [eσ4]; exact MIs_au (a := 106) mσ rfl rfl
          have fσ4 : Fr [74, 106, 107, 108] [1] σ0 σ4 := by rw [eσ4]; exact Fr_si fσ (by decide +kernel) (fun h9 => absurd h9 (by decide +kernel))
          have k_11 : (gi σ4 74 0).toInt = (gi σ 74 0).toInt := gk_l eσ4 rfl
          have k_12 : (gi σ4 74 1).toInt = (gi σ 74 1).toInt := gk_l eσ4 rfl
          refine ⟨hv_10, ?_⟩
          refine k_X12_most mσ4  (fun r7 σ6 mσ6 cσ6 (pσ6_0 : (0 : Int) ≤ r7.toInt ∧ ((gi σ4 107 x1.toNatClampNeg) - (1 : Int32)).toInt ≤ r7.toInt ∧ (r7.toInt = (0 : Int) ∨ r7.toInt = ((gi σ4 107 x1.toNatClampNeg) - (1 : Int32)).toInt)) => ?_)
          obtain rfl := Fr_nil cσ6
          refine ⟨hv_10, ?_⟩
          intro σ9 eσ9
          have mσ9 : MI σ9 := by rw [eσ9]; exact MIs_au (a := 107) mσ4 rfl rfl
          have fσ9 : Fr [74, 106, 107, 108] [1] σ0 σ9 := by rw [eσ9]; exact Fr_si fσ4 (by decide +kernel) (fun h9 => absurd h9 (by decide +kernel))
          have k_13 : (gi σ9 74 0).toInt = (gi σ4 74 0).toInt := gk_l eσ9 rfl
          have k_14 : (gi σ9 74 1).toInt = (gi σ4 74 1).toInt := gk_l eσ9 rfl
          refine ⟨hv_10, ?_⟩
          refine k_X12_most mσ9  (fun r12 σ11 mσ11 cσ11 (pσ11_0 : (0 : Int) ≤ r12.toInt ∧ ((gi σ9 108 x1.toNatClampNeg) - (1 : Int32)).toInt ≤ r12.toInt ∧ (r12.toInt = (0 : Int) ∨ r12.toInt = ((gi σ9 108 x1.toNatClampNeg) - (1 : Int32)).toInt)) => ?_)
          obtain rfl := Fr_nil cσ11
          refine ⟨hv_10, ?_⟩
          intro σ14 eσ14
          have mσ14 : MI σ14 := by rw [eσ14]; exact MIs_au (a := 108) mσ9 rfl rfl
          have fσ14 : Fr [74, 106, 107, 108] [1] σ0 σ14 := by rw [eσ14]; exact Fr_si fσ9 (by decide +kernel) (fun h9 => absurd h9 (by decide +kernel))
          have k_15 : (gi σ14 74 0).toInt = (gi σ9 74 0).toInt := gk_l eσ14 rfl
          have k_16 : (gi σ14 74 1).toInt = (gi σ9 74 1).toInt := gk_l eσ14 rfl
          intro v15 ev15
          have t_17 : (x1 + (1 : Int32)).toInt = x1.toInt + 1 := i_add (x := x1) (y := (1 : Int32)) (by show (_ : Int) ≤ x1.toInt + 1; omega) (by show x1.toInt + 1 ≤ (_ : Int); omega)
          have t_18 : v15.toInt = (x1 + (1 : Int32)).toInt := congrArg Int32.toInt ev15
          exact ih2 v15 σ14 mσ14 fσ14 (by omega) (by omega) (by first | with_reducible assumption | with_reducible rfl | omega | assumption | rfl) (by omega)
  have U2 := T 9
  have f0 : Fr [74, 106, 107, 108] [1] σ0 σ0 := Fr_rf
  refine s_X12_goWhet_0 C hN ?_
  have z_19 : (0 : Int32).toInt = 0 := rfl
  exact U2 (0 : Int32) σ0 m0 f0 (by omega) (by omega) (by first | with_reducible assumption | with_reducible rfl | omega | assumption | rfl) (by omega)
set_option maxRecDepth 100000 in
set_option maxHeartbeats 4000000 in
theorem k_X12_goPause {l : Launch} {V : Vx} {a1 : Int32} {σ0 : Sg} {Qk : Sg → Prop} (m0 : MI σ0) (l_a1 : 0 ≤ a1.toInt) (u_a1 : a1.toInt ≤ 60) (pre0 : (gi σ0 74 1).toInt ≤ 18000) (h9ret : ∀ (σ' : Sg), MI σ' → Fr [74, 107, 108] [1] σ0 σ' → ((gi σ' 74 1).toInt = (gi σ0 74 1).toInt + a1.toInt) → Qk σ') : K_X12_goPause l V a1 σ0 Qk := by
  refine e_X12_goPause (fun M hl hV hN C => ?_)
  subst hl
  subst hV
  have T : ∀ n : Nat, (∀ (x1 : Int32) (x2 : Int32) (σ : Sg), MI σ → Fr [74, 107, 108] [1] σ0 σ → (0 ≤ x1.toInt) → (x1.toInt ≤ 60) → (0 ≤ x2.toInt) → (x2.toInt ≤ 6) → ((gi σ 74 1).toInt = (gi σ0 74 1).toInt) → (x1.toInt = a1.toInt) → (7 - x2.toInt).toNat < n → PS M 2 [(0, .ref 74), (1, .int x1), (2, .int x2)] [] σ (0, 0)) := by
    intro n
    induction n with
    | zero => exact fun _ _ _ _ _ _ _ _ _ _ _ h8 => absurd h8 (Nat.not_lt_zero _)
    | succ n ih =>
      have ih2 := ih
      · intro x1 x2 σ mσ fσ lx1 ux1 lx2 ux2 i0 i1 hmu
        refine s_X12_goPause_2 C hN ?_
        refine ⟨?_, ?_⟩
        · intro q_1
          have t_2 := MI_f0 mσ
          have b_3 : (gi σ 74 0).toInt ≤ x2.toInt := Int32.le_iff_toInt_le.mp q_1
          intro σ2 eσ2
          have t_4 := MI_f1 mσ
          have t_5 : ((gi σ 74 1) + x1).toInt = (gi σ 74 1).toInt + x1.toInt := i_add (x := (gi σ 74 1)) (y := x1) (by show (_ : Int) ≤ (gi σ 74 1).toInt + x1.toInt; omega) (by show (gi σ 74 1).toInt + x1.toInt ≤ (_ : Int); omega)
          have mσ2 : MI σ2 := by rw [eσ2]; exact MIs_f1 mσ (by omega) (by omega)
          have fσ2 : Fr [74, 107, 108] [1] σ0 σ2 := by rw [eσ2]; exact Fr_si fσ (by decide +kernel) (fun _ => by decide +kernel)
          have k_6 : (gi σ2 74 0).toInt = (gi σ 74 0).toInt := gk_r eσ2 rfl
          have k_7 : (gi σ2 74 1).toInt = ((gi σ 74 1) + x1).toInt := by rw [eσ2]; exact congrArg Int32.toInt gi_si_eq
          exact h9ret σ2 mσ2 fσ2 (by first | with_reducible assumption | with_reducible rfl | omega | assumption | rfl)
        · intro q_1
          have t_8 := MI_f0 mσ
          have b_9 : ¬ (gi σ 74 0).toInt ≤ x2.toInt := fun h9 => q_1 (Int32.le_iff_toInt_le.mpr h9)
          have hv_10 : vp_in x2 6 := vp_in_iff.mpr ⟨by omega, by omega⟩
          refine ⟨hv_10, ?_⟩
          have t_11 : ((3 : Int32) * x1).toInt = 3 * x1.toInt := i_mull rfl (by omega) (by omega)
          refine k_X12_most mσ  (fun r5 σ4 mσ4 cσ4 (pσ4_0 : (0 : Int) ≤ r5.toInt ∧ ((gi σ 107 x2.toNatClampNeg) - ((3 : Int32) * x1)).toInt ≤ r5.toInt ∧ (r5.toInt = (0 : Int) ∨ r5.toInt = ((gi σ 107 x2.toNatClampNeg) - ((3 : Int32) * x1)).toInt)) => ?_)
          obtain rfl := Fr_nil cσ4
          refine ⟨hv_10, ?_⟩
          intro σ7 eσ7
          have mσ7 : MI σ7 := by rw [eσ7]; exact MIs_au (a := 107) mσ rfl rfl
          have fσ7 : Fr [74, 107, 108] [1] σ0 σ7 := by rw [eσ7]; exact Fr_si fσ (by decide +kernel) (fun h9 => absurd h9 (by decide +kernel))
          have k_12 : (gi σ7 74 0).toInt = (gi σ 74 0).toInt := gk_l eσ7 rfl
          have k_13 : (gi σ7 74 1).toInt = (gi σ 74 1).toInt := gk_l eσ7 rfl
          refine ⟨hv_10, ?_⟩
          refine k_X12_most mσ7  (fun r10 σ9 mσ9 cσ9 (pσ9_0 : (0 : Int) ≤ r10.toInt ∧ ((gi σ7 108 x2.toNatClampNeg) - x1).toInt ≤ r10.toInt ∧ (r10.toInt = (0 : Int) ∨ r10.toInt = ((gi σ7 108 x2.toNatClampNeg) - x1).toInt)) => ?_)
          obtain rfl := Fr_nil cσ9
          refine ⟨hv_10, ?_⟩
          intro σ12 eσ12
          have mσ12 : MI σ12 := by rw [eσ12]; exact MIs_au (a := 108) mσ7 rfl rfl
          have fσ12 : Fr [74, 107, 108] [1] σ0 σ12 := by rw [eσ12]; exact Fr_si fσ7 (by decide +kernel) (fun h9 => absurd h9 (by decide +kernel))
          have k_14 : (gi σ12 74 0).toInt = (gi σ7 74 0).toInt := gk_l eσ12 rfl
          have k_15 : (gi σ12 74 1).toInt = (gi σ7 74 1).toInt := gk_l eσ12 rfl
          intro v13 ev13
          have t_16 : (x2 + (1 : Int32)).toInt = x2.toInt + 1 := i_add (x := x2) (y := (1 : Int32)) (by show (_ : Int) ≤ x2.toInt + 1; omega) (by show x2.toInt + 1 ≤ (_ : Int); omega)
          have t_17 : v13.toInt = (x2 + (1 : Int32)).toInt := congrArg Int32.toInt ev13
          exact ih2 x1 v13 σ12 mσ12 fσ12 (by omega) (by omega) (by omega) (by omega) (by first | with_reducible assumption | with_reducible rfl | omega | assumption | rfl) (by first | with_reducible assumption | with_reducible rfl | omega | assumption | rfl) (by omega)
  have U2 := T 9
  have f0 : Fr [74, 107, 108] [1] σ0 σ0 := Fr_rf
  refine s_X12_goPause_0 C hN ?_
  have z_18 : (0 : Int32).toInt = 0 := rfl
  exact U2 a1 (0 : Int32) σ0 m0 f0 (by omega) (by omega) (by omega) (by omega) (by first | with_reducible assumption | with_reducible rfl | omega | assumption | rfl) (by first | with_reducible assumption | with_reducible rfl | omega | assumption | rfl) (by omega)
set_option maxRecDepth 100000 in
set_option maxHeartbeats 4000000 in
theorem k_X12_isDone {l : Launch} {V : Vx} {σ0 : Sg} {Qk : Int32 → Sg → Prop} (m0 : MI σ0) (h9ret : ∀ (r : Int32) (σ' : Sg), MI σ' → Fr [] [] σ0 σ' → (0 ≤ r.toInt) → (r.toInt ≤ 1) → Qk r σ') : K_X12_isDone l V σ0 Qk := by
  refine e_X12_isDone (fun M hl hV hN C => ?_)
  subst hl
  subst hV
  have T : ∀ n : Nat, (∀ (x1 : Int32) (σ : Sg), MI σ → Fr [] [] σ0 σ → (0 ≤ x1.toInt) → (x1.toInt ≤ 6) → (7 - x1.toInt).toNat < n → PS M 2 [(0, .ref 74), (1, .int x1)] [] σ (0, 0)) := by
    intro n
    induction n with
    | zero => exact fun _ _ _ _ _ _ h8 => absurd h8 (Nat.not_lt_zero _)
    | succ n ih =>
      have ih2 := ih
      · intro x1 σ mσ fσ lx1 ux1 hmu
        refine s_X12_isDone_2 C hN ?_
        refine ⟨?_, ?_⟩
        · intro q_1
          have t_2 := MI_f0 mσ
          have b_3 : (gi σ 74 0).toInt ≤ x1.toInt := Int32.le_iff_toInt_le.mp q_1
          have z_4 : (1 : Int32).toInt = 1 := rfl
          exact h9ret (1 : Int32) σ mσ fσ (by omega) (by omega)
        · intro q_1
          have t_5 := MI_f0 mσ
          have b_6 : ¬ (gi σ 74 0).toInt ≤ x1.toInt := fun h9 => q_1 (Int32.le_iff_toInt_le.mpr h9)
          have hv_7 : vp_in x1 6 := vp_in_iff.mpr ⟨by omega, by omega⟩
          refine ⟨hv_7, ?_⟩
          refine k_X12_fieldLong mσ  (fun r4 σ3 mσ3 cσ3 => ?_)
          obtain rfl := Fr_nil cσ3
          refine ⟨?_, ?_⟩
          · intro q_8
            have w_9 := Int32.toInt_lt r4
            have w_10 := Int32.le_toInt r4
            have t_11 := MI_a105 mσ hv_7
            have b_12 : r4.toInt ≤ (gi σ 105 x1.toNatClampNeg).toInt := Int32.le_iff_toInt_le.mp q_8
            intro v6 ev6
            have t_13 : (x1 + (1 : Int32)).toInt = x1.toInt + 1 := i_add (x := x1) (y := (1 : Int32)) (by show (_ : Int) ≤ x1.toInt + 1; omega) (by show x1.toInt + 1 ≤ (_ : Int); omega)
            have t_14 : v6.toInt = (x1 + (1 : Int32)).toInt := congrArg Int32.toInt ev6
            exact ih2 v6 σ mσ fσ (by omega) (by omega) (by omega)
          · intro q_8
            have w_15 := Int32.toInt_lt r4
            have w_16 := Int32.le_toInt r4
            have t_17 := MI_a105 mσ hv_7
            have b_18 : ¬ r4.toInt ≤ (gi σ 105 x1.toNatClampNeg).toInt := fun h9 => q_8 (Int32.le_iff_toInt_le.mpr h9)
            have z_19 : (0 : Int32).toInt = 0 := rfl
            exact h9ret (0 : Int32) σ mσ fσ (by omega) (by omega)
  have U2 := T 9
  have f0 : Fr [] [] σ0 σ0 := Fr_rf
  refine s_X12_isDone_0 C hN ?_
  have z_20 : (0 : Int32).toInt = 0 := rfl
  exact U2 (0 : Int32) σ0 m0 f0 (by omega) (by omega) (by omega)
set_option maxRecDepth 100000 in
set_option maxHeartbeats 4000000 in
theorem k_X12_isTape {l : Launch} {V : Vx} {a1 : Int32} {σ0 : Sg} {Qk : Int32 → Sg → Prop} (m0 : MI σ0) (h9ret : ∀ (r : Int32) (σ' : Sg), MI σ' → Fr [] [] σ0 σ' → (0 ≤ r.toInt) → (r.toInt ≤ 1) → ((r.toInt = 1 ∧ 0 ≤ a1.toInt ∧ a1.toInt ≤ 5) ∨ (r.toInt = 0 ∧ (a1.toInt < 0 ∨ 5 < a1.toInt))) → Qk r σ') : K_X12_isTape l V a1 σ0 Qk := by
  refine e_X12_isTape (fun M hl hV hN C => ?_)
  subst hl
  subst hV
  have f0 : Fr [] [] σ0 σ0 := Fr_rf
  refine s_X12_isTape_0 C hN ?_
  refine k_X12_in m0  (fun r2 σ1 mσ1 cσ1 plσ1 phσ1 (pσ1_0 : (r2.toInt = 1 ∧ (0 : Int) ≤ a1.toInt ∧ a1.toInt ≤ (5 : Int)) ∨ (r2.toInt = 0 ∧ (a1.toInt < (0 : Int) ∨ (5 : Int) < a1.toInt))) => ?_)
  obtain rfl := Fr_nil cσ1
  refine ⟨i_bool (by omega) (by omega), ?_⟩
  exact h9ret r2 σ0 m0 f0 (by omega) (by omega) (by first | with_reducible assumption | with_reducible rfl | omega | assumption | rfl)
set_option maxRecDepth 100000 in
set_option maxHeartbeats 4000000 in
theorem k_X12_holds {l : Launch} {V : Vx} {a1 : Int32} {a2 : Int32} {σ0 : Sg} {Qk : Int32 → Sg → Prop} (m0 : MI σ0) (l_a1 : 0 ≤ a1.toInt) (u_a1 : a1.toInt ≤ 59) (l_a2 : 0 ≤ a2.toInt) (u_a2 : a2.toInt ≤ 5) (pre0 : ∃ f : Nat, f < 6 ∧ okCl σ0 f a1.toNatClampNeg) (h9ret : ∀ (r : Int32) (σ' : Sg), MI σ' → Fr [129] [] σ0 σ' → (0 ≤ r.toInt) → (r.toInt ≤ 1) → Qk r σ') : K_X12_holds l V a1 a2 σ0 Qk := by
  refine e_X12_holds (fun M hl hV hN C => ?_)
  subst hl
  subst hV
  obtain ⟨fd, hfd, lo, hi, e1, e2, b1, b2, b3, hseg⟩ := pre0
  obtain ⟨G, hG0, hG⟩ := okSegG hseg
  have T : ∀ n : Nat, (∀ (x1 : Int32) (x2 : Int32) (x3 : Int32) (x4 : Int32) (σ : Sg), MI σ → Fr [129] [] σ0 σ → (0 ≤ x1.toInt) → (x1.toInt ≤ 59) → (0 ≤ x2.toInt) → (x2.toInt ≤ 5) → (0 ≤ x3.toInt) → (x3.toInt ≤ 100) → (0 ≤ x4.toInt) → (x4.toInt ≤ 600) → (x1 = a1) → ((lo : Int) ≤ x4.toInt) → (x4.toInt ≤ hi) → (x3.toInt = G x4.toInt) → (601 - x4.toInt).toNat < n → PS M 10 [(0, .ref 74), (1, .int x1), (2, .int x2), (3, .int x3), (4, .int x4)] [] σ (0, 0)) := by
    intro n
    induction n with
    | zero => exact fun _ _ _ _ _ _ _ _ _ _ _ _ _ _ _ _ _ _ _ h8 => absurd h8 (Nat.not_lt_zero _)
    | succ n ih =>
      have ih10 := ih
      · intro x1 x2 x3 x4 σ mσ fσ lx1 ux1 lx2 ux2 lx3 ux3 lx4 ux4 i0 i1 i2 i3 hmu
        subst i0
        have g1 : (gi σ 121 x1.toNatClampNeg).toInt = hi := by rw [show gi σ 121 x1.toNatClampNeg = gi σ0 121 x1.toNatClampNeg from congrFun (fσ.1 121 (by decide +kernel)).1 _]; exact e2
        have g2 : ∀ j, gi σ 122 j = gi σ0 122 j := fun j => congrFun (fσ.1 122 (by decide +kernel)).1 j
        obtain ⟨gb, egb⟩ : ∃ n : Int, G x4.toInt = n := ⟨_, rfl⟩
        obtain ⟨ga, ega⟩ : ∃ n : Int, G (x4.toInt + 1) = n := ⟨_, rfl⟩
        rw [egb] at i3
        have g3 : ∀ w : Int32, w.toInt = x4.toInt + 1 → G w.toInt = ga := fun w hw => by rw [hw]; exact ega
        have hS := hG x4.toInt
        rw [egb, ega] at hS
        have hS : hid _ := hS
        clear egb ega
        refine s_X12_holds_10 C hN ?_
        have hv_1 : vp_in x1 60 := vp_in_iff.mpr ⟨by omega, by omega⟩
        refine ⟨hv_1, ?_⟩
        refine ⟨?_, ?_⟩
        · intro q_2
          have b_3 : (gi σ 121 x1.toNatClampNeg).toInt ≤ x4.toInt := Int32.le_iff_toInt_le.mp q_2
          have z_4 : (0 : Int32).toInt = 0 := rfl
          have hv_5 : vp_in (0 : Int32) 100 := vp_in_iff.mpr ⟨by omega, by omega⟩
          refine ⟨hv_5, ?_⟩
          have t_6 := MI_a129 mσ hv_5
          refine ⟨i_bool (by omega) (by omega), ?_⟩
          exact h9ret (gi σ 129 (0 : Int32).toNatClampNeg) σ mσ fσ (by omega) (by omega)
        · intro q_2
          have b_7 : ¬ (gi σ 121 x1.toNatClampNeg).toInt ≤ x4.toInt := fun h9 => q_2 (Int32.le_iff_toInt_le.mpr h9)
          have hv_8 : vp_in x4 600 := vp_in_iff.mpr ⟨by omega, by omega⟩
          refine ⟨hv_8, ?_⟩
          intro v5 ev5
          have hk := un hS (by omega) (by omega)
          have e5 : v5 = gi σ0 122 x4.toInt.toNat := by rw [ev5]; exact g2 _
          rw [← e5] at hk
          have k1 : hid _ := hk.1
          have k2 : hid _ := hk.2.1
          have k3 : hid _ := hk.2.2
          clear hk
          refine ⟨?_, ?_⟩
          · intro q_9
            have w_10 := Int32.toInt_lt v5
            have w_11 := Int32.le_toInt v5
            have b_12 : ¬ v5.toInt = (-33) := fun h9 => q_9 (Int32.toInt_inj.mp h9)
            have nn := q_9
            refine ⟨?_, ?_⟩
            · intro q_13
              have b_14 : (0 : Int) ≤ v5.toInt := Int32.le_iff_toInt_le.mp q_13
              obtain ⟨j1, j2⟩ := un k3 (by omega)
              refine k_X12_factOf mσ (by omega) (by omega) (fun r9 σ8 mσ8 cσ8 => ?_)
              obtain rfl := Fr_nil cσ8
              intro v10 ev10
              refine ⟨?_, ?_⟩
              · intro q_15
                have w_16 := Int32.toInt_lt v10
                have w_17 := Int32.le_toInt v10
                have b_18 : ¬ v10.toInt = 0 := fun h9 => q_15 (Int32.toInt_inj.mp h9)
                refine ⟨?_, ?_⟩
                · intro q_19
                  have b_20 : ¬ v10.toInt = 1 := fun h9 => q_19 (Int32.toInt_inj.mp h9)
                  refine ⟨?_, ?_⟩
                  · intro q_21
                    have w_22 := Int32.toInt_lt r9
                    have w_23 := Int32.le_toInt r9
                    try have t_24 : (v5 - ((v5 / (100 : Int32)) * (100 : Int32))).toInt = v5.toInt % 100 := i_rem (by omega) (by decide +kernel) rfl
                    have b_25 : r9.toInt ≤ (v5 - ((v5 / (100 : Int32)) * (100 : Int32))).toInt := Int32.le_iff_toInt_le.mp q_21
                    have hv_26 : vp_in x3 100 := vp_in_iff.mpr ⟨by omega, by omega⟩
                    refine ⟨hv_26, ?_⟩
                    intro σ15 eσ15
                    have mσ15 : MI σ15 := by rw [eσ15]; exact MIs_z129 mσ
                    have fσ15 : Fr [129] [] σ0 σ15 := by rw [eσ15]; exact Fr_si fσ (by decide +kernel) (fun h9 => absurd h9 (by decide +kernel))
                    intro v16 ev16
                    have t_27 : (x3 + (1 : Int32)).toInt = x3.toInt + 1 := i_add (x := x3) (y := (1 : Int32)) (by show (_ : Int) ≤ x3.toInt + 1; omega) (by show x3.toInt + 1 ≤ (_ : Int); omega)
                    have t_28 : v16.toInt = (x3 + (1 : Int32)).toInt := congrArg Int32.toInt ev16
                    intro v17 ev17
                    have t_29 : (x4 + (1 : Int32)).toInt = x4.toInt + 1 := i_add (x := x4) (y := (1 : Int32)) (by show (_ : Int) ≤ x4.toInt + 1; omega) (by show x4.toInt + 1 ≤ (_ : Int); omega)
                    have t_30 : v17.toInt = (x4 + (1 : Int32)).toInt := congrArg Int32.toInt ev17
                    exact ih10 x1 x2 v16 v17 σ15 mσ15 fσ15 (by omega) (by omega) (by omega) (by omega) (by omega) (by omega) (by omega) (by omega) (by first | with_reducible assumption | with_reducible rfl | omega | assumption | rfl) (by first | with_reducible assumption | with_reducible rfl | omega | assumption | rfl) (by first | with_reducible assumption | with_reducible rfl | omega | assumption | rfl) (by first | (rw [g3 _ (by omega)]; omega) | omega) (by omega)
                  · intro q_21
                    have w_31 := Int32.toInt_lt r9
                    have w_32 := Int32.le_toInt r9
                    try have t_33 : (v5 - ((v5 / (100 : Int32)) * (100 : Int32))).toInt = v5.toInt % 100 := i_rem (by omega) (by decide +kernel) rfl
                    have b_34 : ¬ r9.toInt ≤ (v5 - ((v5 / (100 : Int32)) * (100 : Int32))).toInt := fun h9 => q_21 (Int32.le_iff_toInt_le.mpr h9)
                    have hv_35 : vp_in x3 100 := vp_in_iff.mpr ⟨by omega, by omega⟩
                    refine ⟨hv_35, ?_⟩
                    intro σ19 eσ19
                    have mσ19 : MI σ19 := by rw [eσ19]; exact MIs_z129 mσ
                    have fσ19 : Fr [129] [] σ0 σ19 := by rw [eσ19]; exact Fr_si fσ (by decide +kernel) (fun h9 => absurd h9 (by decide +kernel))
                    intro v20 ev20
                    have t_36 : (x3 + (1 : Int32)).toInt = x3.toInt + 1 := i_add (x := x3) (y := (1 : Int32)) (by show (_ : Int) ≤ x3.toInt + 1; omega) (by show x3.toInt + 1 ≤ (_ : Int); omega)
                    have t_37 : v20.toInt = (x3 + (1 : Int32)).toInt := congrArg Int32.toInt ev20
                    intro v21 ev21
                    have t_38 : (x4 + (1 : Int32)).toInt = x4.toInt + 1 := i_add (x := x4) (y := (1 : Int32)) (by show (_ : Int) ≤ x4.toInt + 1; omega) (by show x4.toInt + 1 ≤ (_ : Int); omega)
                    have t_39 : v21.toInt = (x4 + (1 : Int32)).toInt := congrArg Int32.toInt ev21
                    exact ih10 x1 x2 v20 v21 σ19 mσ19 fσ19 (by omega) (by omega) (by omega) (by omega) (by omega) (by omega) (by omega) (by omega) (by first | with_reducible assumption | with_reducible rfl | omega | assumption | rfl) (by first | with_reducible assumption | with_reducible rfl | omega | assumption | rfl) (by first | with_reducible assumption | with_reducible rfl | omega | assumption | rfl) (by first | (rw [g3 _ (by omega)]; omega) | omega) (by omega)
                · intro q_19
                  have b_40 : v10.toInt = 1 := congrArg Int32.toInt q_19
                  refine ⟨?_, ?_⟩
                  · intro q_41
                    have w_42 := Int32.toInt_lt r9
                    have w_43 := Int32.le_toInt r9
                    try have t_44 : (v5 - ((v5 / (100 : Int32)) * (100 : Int32))).toInt = v5.toInt % 100 := i_rem (by omega) (by decide +kernel) rfl
                    have b_45 : ¬ r9.toInt = (v5 - ((v5 / (100 : Int32)) * (100 : Int32))).toInt := fun h9 => q_41 (Int32.toInt_inj.mp h9)
                    have hv_46 : vp_in x3 100 := vp_in_iff.mpr ⟨by omega, by omega⟩
                    refine ⟨hv_46, ?_⟩
                    intro σ24 eσ24
                    have mσ24 : MI σ24 := by rw [eσ24]; exact MIs_z129 mσ
                    have fσ24 : Fr [129] [] σ0 σ24 := by rw [eσ24]; exact Fr_si fσ (by decide +kernel) (fun h9 => absurd h9 (by decide +kernel))
                    intro v25 ev25
                    have t_47 : (x3 + (1 : Int32)).toInt = x3.toInt + 1 := i_add (x := x3) (y := (1 : Int32)) (by show (_ : Int) ≤ x3.toInt + 1; omega) (by show x3.toInt + 1 ≤ (_ : Int); omega)
                    have t_48 : v25.toInt = (x3 + (1 : Int32)).toInt := congrArg Int32.toInt ev25
                    intro v26 ev26
                    have t_49 : (x4 + (1 : Int32)).toInt = x4.toInt + 1 := i_add (x := x4) (y := (1 : Int32)) (by show (_ : Int) ≤ x4.toInt + 1; omega) (by show x4.toInt + 1 ≤ (_ : Int); omega)
                    have t_50 : v26.toInt = (x4 + (1 : Int32)).toInt := congrArg Int32.toInt ev26
                    exact ih10 x1 x2 v25 v26 σ24 mσ24 fσ24 (by omega) (by omega) (by omega) (by omega) (by omega) (by omega) (by omega) (by omega) (by first | with_reducible assumption | with_reducible rfl | omega | assumption | rfl) (by first | with_reducible assumption | with_reducible rfl | omega | assumption | rfl) (by first | with_reducible assumption | with_reducible rfl | omega | assumption | rfl) (by first | (rw [g3 _ (by omega)]; omega) | omega) (by omega)
                  · intro q_41
                    have w_51 := Int32.toInt_lt r9
                    have w_52 := Int32.le_toInt r9
                    try have t_53 : (v5 - ((v5 / (100 : Int32)) * (100 : Int32))).toInt = v5.toInt % 100 := i_rem (by omega) (by decide +kernel) rfl
                    have b_54 : r9.toInt = (v5 - ((v5 / (100 : Int32)) * (100 : Int32))).toInt := congrArg Int32.toInt q_41
                    have hv_55 : vp_in x3 100 := vp_in_iff.mpr ⟨by omega, by omega⟩
                    refine ⟨hv_55, ?_⟩
                    intro σ28 eσ28
                    have mσ28 : MI σ28 := by rw [eσ28]; exact MIs_z129 mσ
                    have fσ28 : Fr [129] [] σ0 σ28 := by rw [eσ28]; exact Fr_si fσ (by decide +kernel) (fun h9 => absurd h9 (by decide +kernel))
                    intro v29 ev29
                    have t_56 : (x3 + (1 : Int32)).toInt = x3.toInt + 1 := i_add (x := x3) (y := (1 : Int32)) (by show (_ : Int) ≤ x3.toInt + 1; omega) (by show x3.toInt + 1 ≤ (_ : Int); omega)
                    have t_57 : v29.toInt = (x3 + (1 : Int32)).toInt := congrArg Int32.toInt ev29
                    intro v30 ev30
                    have t_58 : (x4 + (1 : Int32)).toInt = x4.toInt + 1 := i_add (x := x4) (y := (1 : Int32)) (by show (_ : Int) ≤ x4.toInt + 1; omega) (by show x4.toInt + 1 ≤ (_ : Int); omega)
                    have t_59 : v30.toInt = (x4 + (1 : Int32)).toInt := congrArg Int32.toInt ev30
                    exact ih10 x1 x2 v29 v30 σ28 mσ28 fσ28 (by omega) (by omega) (by omega) (by omega) (by omega) (by omega) (by omega) (by omega) (by first | with_reducible assumption | with_reducible rfl | omega | assumption | rfl) (by first | with_reducible assumption | with_reducible rfl | omega | assumption | rfl) (by first | with_reducible assumption | with_reducible rfl | omega | assumption | rfl) (by first | (rw [g3 _ (by omega)]; omega) | omega) (by omega)
              · intro q_15
                have w_60 := Int32.toInt_lt v10
                have w_61 := Int32.le_toInt v10
                have b_62 : v10.toInt = 0 := congrArg Int32.toInt q_15
                refine ⟨?_, ?_⟩
                · intro q_63
                  try have t_64 : (v5 - ((v5 / (100 : Int32)) * (100 : Int32))).toInt = v5.toInt % 100 := i_rem (by omega) (by decide +kernel) rfl
                  have w_65 := Int32.toInt_lt r9
                  have w_66 := Int32.le_toInt r9
                  have b_67 : (v5 - ((v5 / (100 : Int32)) * (100 : Int32))).toInt ≤ r9.toInt := Int32.le_iff_toInt_le.mp q_63
                  have hv_68 : vp_in x3 100 := vp_in_iff.mpr ⟨by omega, by omega⟩
                  refine ⟨hv_68, ?_⟩
                  intro σ33 eσ33
                  have mσ33 : MI σ33 := by rw [eσ33]; exact MIs_z129 mσ
                  have fσ33 : Fr [129] [] σ0 σ33 := by rw [eσ33]; exact Fr_si fσ (by decide +kernel) (fun h9 => absurd h9 (by decide +kernel))
                  intro v34 ev34
                  have t_69 : (x3 + (1 : Int32)).toInt = x3.toInt + 1 := i_add (x := x3) (y := (1 : Int32)) (by show (_ : Int) ≤ x3.toInt + 1; omega) (by show x3.toInt + 1 ≤ (_ : Int); omega)
                  have t_70 : v34.toInt = (x3 + (1 : Int32)).toInt := congrArg Int32.toInt ev34
                  intro v35 ev35
                  have t_71 : (x4 + (1 : Int32)).toInt = x4.toInt + 1 := i_add (x := x4) (y := (1 : Int32)) (by show (_ : Int) ≤ x4.toInt + 1; omega) (by show x4.toInt + 1 ≤ (_ : Int); omega)
                  have t_72 : v35.toInt = (x4 + (1 : Int32)).toInt := congrArg Int32.toInt ev35
                  exact ih10 x1 x2 v34 v35 σ33 mσ33 fσ33 (by omega) (by omega) (by omega) (by omega) (by omega) (by omega) (by omega) (by omega) (by first | with_reducible assumption | with_reducible rfl | omega | assumption | rfl) (by first | with_reducible assumption | with_reducible rfl | omega | assumption | rfl) (by first | with_reducible assumption | with_reducible rfl | omega | assumption | rfl) (by first | (rw [g3 _ (by omega)]; omega) | omega) (by omega)
                · intro q_63
                  try have t_73 : (v5 - ((v5 / (100 : Int32)) * (100 : Int32))).toInt = v5.toInt % 100 := i_rem (by omega) (by decide +kernel) rfl
                  have w_74 := Int32.toInt_lt r9
                  have w_75 := Int32.le_toInt r9
                  have b_76 : ¬ (v5 - ((v5 / (100 : Int32)) * (100 : Int32))).toInt ≤ r9.toInt := fun h9 => q_63 (Int32.le_iff_toInt_le.mpr h9)
                  have hv_77 : vp_in x3 100 := vp_in_iff.mpr ⟨by omega, by omega⟩
                  refine ⟨hv_77, ?_⟩
                  intro σ37 eσ37
                  have mσ37 : MI σ37 := by rw [eσ37]; exact MIs_z129 mσ
                  have fσ37 : Fr [129] [] σ0 σ37 := by rw [eσ37]; exact Fr_si fσ (by decide +kernel) (fun h9 => absurd h9 (by decide +kernel))
                  intro v38 ev38
                  have t_78 : (x3 + (1 : Int32)).toInt = x3.toInt + 1 := i_add (x := x3) (y := (1 : Int32)) (by show (_ : Int) ≤ x3.toInt + 1; omega) (by show x3.toInt + 1 ≤ (_ : Int); omega)
                  have t_79 : v38.toInt = (x3 + (1 : Int32)).toInt := congrArg Int32.toInt ev38
                  intro v39 ev39
                  have t_80 : (x4 + (1 : Int32)).toInt = x4.toInt + 1 := i_add (x := x4) (y := (1 : Int32)) (by show (_ : Int) ≤ x4.toInt + 1; omega) (by show x4.toInt + 1 ≤ (_ : Int); omega)
                  have t_81 : v39.toInt = (x4 + (1 : Int32)).toInt := congrArg Int32.toInt ev39
                  exact ih10 x1 x2 v38 v39 σ37 mσ37 fσ37 (by omega) (by omega) (by omega) (by omega) (by omega) (by omega) (by omega) (by omega) (by first | with_reducible assumption | with_reducible rfl | omega | assumption | rfl) (by first | with_reducible assumption | with_reducible rfl | omega | assumption | rfl) (by first | with_reducible assumption | with_reducible rfl | omega | assumption | rfl) (by first | (rw [g3 _ (by omega)]; omega) | omega) (by omega)
            · intro q_13
              have b_82 : ¬ (0 : Int) ≤ v5.toInt := fun h9 => q_13 (Int32.le_iff_toInt_le.mpr h9)
              obtain ⟨j1, j2⟩ := un k2 nn (by omega)
              intro v40 ev40
              have t_83 : (x3 - (1 : Int32)).toInt = x3.toInt - 1 := i_sub (x := x3) (y := (1 : Int32)) (by show (_ : Int) ≤ x3.toInt - 1; omega) (by show x3.toInt - 1 ≤ (_ : Int); omega)
              have t_84 : v40.toInt = (x3 - (1 : Int32)).toInt := congrArg Int32.toInt ev40
              refine ⟨?_, ?_⟩
              · intro q_85
                have b_86 : ¬ v5.toInt = (-38) := fun h9 => q_85 (Int32.toInt_inj.mp h9)
                have t_87 : (v40 - (1 : Int32)).toInt = v40.toInt - 1 := i_sub (x := v40) (y := (1 : Int32)) (by show (_ : Int) ≤ v40.toInt - 1; omega) (by show v40.toInt - 1 ≤ (_ : Int); omega)
                have hv_88 : vp_in (v40 - (1 : Int32)) 100 := vp_in_iff.mpr ⟨by omega, by omega⟩
                refine ⟨hv_88, ?_⟩
                refine ⟨?_, ?_⟩
                · intro q_89
                  have t_90 := MI_a129 mσ hv_88
                  have b_91 : ¬ (gi σ 129 (v40 - (1 : Int32)).toNatClampNeg).toInt = 0 := fun h9 => q_89 (Int32.toInt_inj.mp h9)
                  refine ⟨hv_88, ?_⟩
                  intro σ45 eσ45
                  have mσ45 : MI σ45 := by rw [eσ45]; exact MIs_z129 mσ
                  have fσ45 : Fr [129] [] σ0 σ45 := by rw [eσ45]; exact Fr_si fσ (by decide +kernel) (fun h9 => absurd h9 (by decide +kernel))
                  intro v46 ev46
                  have t_92 : (x4 + (1 : Int32)).toInt = x4.toInt + 1 := i_add (x := x4) (y := (1 : Int32)) (by show (_ : Int) ≤ x4.toInt + 1; omega) (by show x4.toInt + 1 ≤ (_ : Int); omega)
                  have t_93 : v46.toInt = (x4 + (1 : Int32)).toInt := congrArg Int32.toInt ev46
                  exact ih10 x1 x2 v40 v46 σ45 mσ45 fσ45 (by omega) (by omega) (by omega) (by omega) (by omega) (by omega) (by omega) (by omega) (by first | with_reducible assumption | with_reducible rfl | omega | assumption | rfl) (by first | with_reducible assumption | with_reducible rfl | omega | assumption | rfl) (by first | with_reducible assumption | with_reducible rfl | omega | assumption | rfl) (by first | (rw [g3 _ (by omega)]; omega) | omega) (by omega)
                · intro q_89
                  have t_94 := MI_a129 mσ hv_88
                  have b_95 : (gi σ 129 (v40 - (1 : Int32)).toNatClampNeg).toInt = 0 := congrArg Int32.toInt q_89
                  have hv_96 : vp_in v40 100 := vp_in_iff.mpr ⟨by omega, by omega⟩
                  refine ⟨hv_96, ?_⟩
                  refine ⟨?_, ?_⟩
                  · intro q_97
                    have t_98 := MI_a129 mσ hv_96
                    have b_99 : (gi σ 129 v40.toNatClampNeg).toInt = 0 := congrArg Int32.toInt q_97
                    refine ⟨hv_88, ?_⟩
                    intro σ50 eσ50
                    have mσ50 : MI σ50 := by rw [eσ50]; exact MIs_z129 mσ
                    have fσ50 : Fr [129] [] σ0 σ50 := by rw [eσ50]; exact Fr_si fσ (by decide +kernel) (fun h9 => absurd h9 (by decide +kernel))
                    intro v51 ev51
                    have t_100 : (x4 + (1 : Int32)).toInt = x4.toInt + 1 := i_add (x := x4) (y := (1 : Int32)) (by show (_ : Int) ≤ x4.toInt + 1; omega) (by show x4.toInt + 1 ≤ (_ : Int); omega)
                    have t_101 : v51.toInt = (x4 + (1 : Int32)).toInt := congrArg Int32.toInt ev51
                    exact ih10 x1 x2 v40 v51 σ50 mσ50 fσ50 (by omega) (by omega) (by omega) (by omega) (by omega) (by omega) (by omega) (by omega) (by first | with_reducible assumption | with_reducible rfl | omega | assumption | rfl) (by first | with_reducible assumption | with_reducible rfl | omega | assumption | rfl) (by first | with_reducible assumption | with_reducible rfl | omega | assumption | rfl) (by first | (rw [g3 _ (by omega)]; omega) | omega) (by omega)
                  · intro q_97
                    have t_102 := MI_a129 mσ hv_96
                    have b_103 : ¬ (gi σ 129 v40.toNatClampNeg).toInt = 0 := fun h9 => q_97 (Int32.toInt_inj.mp h9)
                    refine ⟨hv_88, ?_⟩
                    intro σ53 eσ53
                    have mσ53 : MI σ53 := by rw [eσ53]; exact MIs_z129 mσ
                    have fσ53 : Fr [129] [] σ0 σ53 := by rw [eσ53]; exact Fr_si fσ (by decide +kernel) (fun h9 => absurd h9 (by decide +kernel))
                    intro v54 ev54
                    have t_104 : (x4 + (1 : Int32)).toInt = x4.toInt + 1 := i_add (x := x4) (y := (1 : Int32)) (by show (_ : Int) ≤ x4.toInt + 1; omega) (by show x4.toInt + 1 ≤ (_ : Int); omega)
                    have t_105 : v54.toInt = (x4 + (1 : Int32)).toInt := congrArg Int32.toInt ev54
                    exact ih10 x1 x2 v40 v54 σ53 mσ53 fσ53 (by omega) (by omega) (by omega) (by omega) (by omega) (by omega) (by omega) (by omega) (by first | with_reducible assumption | with_reducible rfl | omega | assumption | rfl) (by first | with_reducible assumption | with_reducible rfl | omega | assumption | rfl) (by first | with_reducible assumption | with_reducible rfl | omega | assumption | rfl) (by first | (rw [g3 _ (by omega)]; omega) | omega) (by omega)
              · intro q_85
                have b_106 : v5.toInt = (-38) := congrArg Int32.toInt q_85
                have t_107 : (v40 - (1 : Int32)).toInt = v40.toInt - 1 := i_sub (x := v40) (y := (1 : Int32)) (by show (_ : Int) ≤ v40.toInt - 1; omega) (by show v40.toInt - 1 ≤ (_ : Int); omega)
                have hv_108 : vp_in (v40 - (1 : Int32)) 100 := vp_in_iff.mpr ⟨by omega, by omega⟩
                refine ⟨hv_108, ?_⟩
                refine ⟨?_, ?_⟩
                · intro q_109
                  have t_110 := MI_a129 mσ hv_108
                  have b_111 : (gi σ 129 (v40 - (1 : Int32)).toNatClampNeg).toInt = 0 := congrArg Int32.toInt q_109
                  refine ⟨hv_108, ?_⟩
                  intro σ58 eσ58
                  have mσ58 : MI σ58 := by rw [eσ58]; exact MIs_z129 mσ
                  have fσ58 : Fr [129] [] σ0 σ58 := by rw [eσ58]; exact Fr_si fσ (by decide +kernel) (fun h9 => absurd h9 (by decide +kernel))
                  intro v59 ev59
                  have t_112 : (x4 + (1 : Int32)).toInt = x4.toInt + 1 := i_add (x := x4) (y := (1 : Int32)) (by show (_ : Int) ≤ x4.toInt + 1; omega) (by show x4.toInt + 1 ≤ (_ : Int); omega)
                  have t_113 : v59.toInt = (x4 + (1 : Int32)).toInt := congrArg Int32.toInt ev59
                  exact ih10 x1 x2 v40 v59 σ58 mσ58 fσ58 (by omega) (by omega) (by omega) (by omega) (by omega) (by omega) (by omega) (by omega) (by first | with_reducible assumption | with_reducible rfl | omega | assumption | rfl) (by first | with_reducible assumption | with_reducible rfl | omega | assumption | rfl) (by first | with_reducible assumption | with_reducible rfl | omega | assumption | rfl) (by first | (rw [g3 _ (by omega)]; omega) | omega) (by omega)
                · intro q_109
                  have t_114 := MI_a129 mσ hv_108
                  have b_115 : ¬ (gi σ 129 (v40 - (1 : Int32)).toNatClampNeg).toInt = 0 := fun h9 => q_109 (Int32.toInt_inj.mp h9)
                  have hv_116 : vp_in v40 100 := vp_in_iff.mpr ⟨by omega, by omega⟩
                  refine ⟨hv_116, ?_⟩
                  refine ⟨?_, ?_⟩
                  · intro q_117
                    have t_118 := MI_a129 mσ hv_116
                    have b_119 : (gi σ 129 v40.toNatClampNeg).toInt = 0 := congrArg Int32.toInt q_117
                    refine ⟨hv_108, ?_⟩
                    intro σ63 eσ63
                    have mσ63 : MI σ63 := by rw [eσ63]; exact MIs_z129 mσ
                    have fσ63 : Fr [129] [] σ0 σ63 := by rw [eσ63]; exact Fr_si fσ (by decide +kernel) (fun h9 => absurd h9 (by decide +kernel))
                    intro v64 ev64
                    have t_120 : (x4 + (1 : Int32)).toInt = x4.toInt + 1 := i_add (x := x4) (y := (1 : Int32)) (by show (_ : Int) ≤ x4.toInt + 1; omega) (by show x4.toInt + 1 ≤ (_ : Int); omega)
                    have t_121 : v64.toInt = (x4 + (1 : Int32)).toInt := congrArg Int32.toInt ev64
                    exact ih10 x1 x2 v40 v64 σ63 mσ63 fσ63 (by omega) (by omega) (by omega) (by omega) (by omega) (by omega) (by omega) (by omega) (by first | with_reducible assumption | with_reducible rfl | omega | assumption | rfl) (by first | with_reducible assumption | with_reducible rfl | omega | assumption | rfl) (by first | with_reducible assumption | with_reducible rfl | omega | assumption | rfl) (by first | (rw [g3 _ (by omega)]; omega) | omega) (by omega)
                  · intro q_117
                    have t_122 := MI_a129 mσ hv_116
                    have b_123 : ¬ (gi σ 129 v40.toNatClampNeg).toInt = 0 := fun h9 => q_117 (Int32.toInt_inj.mp h9)
                    refine ⟨hv_108, ?_⟩
                    intro σ66 eσ66
                    have mσ66 : MI σ66 := by rw [eσ66]; exact MIs_z129 mσ
                    have fσ66 : Fr [129] [] σ0 σ66 := by rw [eσ66]; exact Fr_si fσ (by decide +kernel) (fun h9 => absurd h9 (by decide +kernel))
                    intro v67 ev67
                    have t_124 : (x4 + (1 : Int32)).toInt = x4.toInt + 1 := i_add (x := x4) (y := (1 : Int32)) (by show (_ : Int) ≤ x4.toInt + 1; omega) (by show x4.toInt + 1 ≤ (_ : Int); omega)
                    have t_125 : v67.toInt = (x4 + (1 : Int32)).toInt := congrArg Int32.toInt ev67
                    exact ih10 x1 x2 v40 v67 σ66 mσ66 fσ66 (by omega) (by omega) (by omega) (by omega) (by omega) (by omega) (by omega) (by omega) (by first | with_reducible assumption | with_reducible rfl | omega | assumption | rfl) (by first | with_reducible assumption | with_reducible rfl | omega | assumption | rfl) (by first | with_reducible assumption | with_reducible rfl | omega | assumption | rfl) (by first | (rw [g3 _ (by omega)]; omega) | omega) (by omega)
          · intro q_9
            have w_126 := Int32.toInt_lt v5
            have w_127 := Int32.le_toInt v5
            have b_128 : v5.toInt = (-33) := congrArg Int32.toInt q_9
            obtain ⟨j1, j2⟩ := un k1 q_9
            have t_129 : (x3 - (1 : Int32)).toInt = x3.toInt - 1 := i_sub (x := x3) (y := (1 : Int32)) (by show (_ : Int) ≤ x3.toInt - 1; omega) (by show x3.toInt - 1 ≤ (_ : Int); omega)
            have hv_130 : vp_in (x3 - (1 : Int32)) 100 := vp_in_iff.mpr ⟨by omega, by omega⟩
            refine ⟨hv_130, ?_⟩
            refine ⟨?_, ?_⟩
            · intro q_131
              have t_132 := MI_a129 mσ hv_130
              have b_133 : ¬ (gi σ 129 (x3 - (1 : Int32)).toNatClampNeg).toInt = 0 := fun h9 => q_131 (Int32.toInt_inj.mp h9)
              refine ⟨hv_130, ?_⟩
              intro σ71 eσ71
              have mσ71 : MI σ71 := by rw [eσ71]; exact MIs_z129 mσ
              have fσ71 : Fr [129] [] σ0 σ71 := by rw [eσ71]; exact Fr_si fσ (by decide +kernel) (fun h9 => absurd h9 (by decide +kernel))
              intro v72 ev72
              have t_134 : (x4 + (1 : Int32)).toInt = x4.toInt + 1 := i_add (x := x4) (y := (1 : Int32)) (by show (_ : Int) ≤ x4.toInt + 1; omega) (by show x4.toInt + 1 ≤ (_ : Int); omega)
              have t_135 : v72.toInt = (x4 + (1 : Int32)).toInt := congrArg Int32.toInt ev72
              exact ih10 x1 x2 x3 v72 σ71 mσ71 fσ71 (by omega) (by omega) (by omega) (by omega) (by omega) (by omega) (by omega) (by omega) (by first | with_reducible assumption | with_reducible rfl | omega | assumption | rfl) (by first | with_reducible assumption | with_reducible rfl | omega | assumption | rfl) (by first | with_reducible assumption | with_reducible rfl | omega | assumption | rfl) (by first | (rw [g3 _ (by omega)]; omega) | omega) (by omega)
            · intro q_131
              have t_136 := MI_a129 mσ hv_130
              have b_137 : (gi σ 129 (x3 - (1 : Int32)).toNatClampNeg).toInt = 0 := congrArg Int32.toInt q_131
              refine ⟨hv_130, ?_⟩
              intro σ74 eσ74
              have mσ74 : MI σ74 := by rw [eσ74]; exact MIs_z129 mσ
              have fσ74 : Fr [129] [] σ0 σ74 := by rw [eσ74]; exact Fr_si fσ (by decide +kernel) (fun h9 => absurd h9 (by decide +kernel))
              intro v75 ev75
              have t_138 : (x4 + (1 : Int32)).toInt = x4.toInt + 1 := i_add (x := x4) (y := (1 : Int32)) (by show (_ : Int) ≤ x4.toInt + 1; omega) (by show x4.toInt + 1 ≤ (_ : Int); omega)
              have t_139 : v75.toInt = (x4 + (1 : Int32)).toInt := congrArg Int32.toInt ev75
              exact ih10 x1 x2 x3 v75 σ74 mσ74 fσ74 (by omega) (by omega) (by omega) (by omega) (by omega) (by omega) (by omega) (by omega) (by first | with_reducible assumption | with_reducible rfl | omega | assumption | rfl) (by first | with_reducible assumption | with_reducible rfl | omega | assumption | rfl) (by first | with_reducible assumption | with_reducible rfl | omega | assumption | rfl) (by first | (rw [g3 _ (by omega)]; omega) | omega) (by omega)
  have U10 := T 700
  have f0 : Fr [129] [] σ0 σ0 := Fr_rf
  refine s_X12_holds_0 C hN ?_
  have hv_140 : vp_in a1 60 := vp_in_iff.mpr ⟨by omega, by omega⟩
  refine ⟨hv_140, ?_⟩
  intro v2 ev2
  have e9 : v2.toInt = lo := by rw [ev2]; exact e1
  have e10 : G v2.toInt = 0 := by rw [e9]; exact hG0
  have z_141 : (0 : Int32).toInt = 0 := rfl
  exact U10 a1 a2 (0 : Int32) v2 σ0 m0 f0 (by omega) (by omega) (by omega) (by omega) (by omega) (by omega) (by omega) (by omega) (by first | with_reducible assumption | with_reducible rfl | omega | assumption | rfl) (by first | with_reducible assumption | with_reducible rfl | omega | assumption | rfl) (by first | with_reducible assumption | with_reducible rfl | omega | assumption | rfl) (by first | (rw [g3 _ (by omega)]; omega) | omega) (by omega)
set_option maxRecDepth 100000 in
set_option maxHeartbeats 4000000 in
theorem k_X12_paceAt {l : Launch} {V : Vx} {a1 : Int32} {σ0 : Sg} {Qk : Int32 → Sg → Prop} (m0 : MI σ0) (l_a1 : 0 ≤ a1.toInt) (u_a1 : a1.toInt ≤ 5) (h9ret : ∀ (r : Int32) (σ' : Sg), MI σ' → Fr [74, 129] [30] σ0 σ' → Qk r σ') : K_X12_paceAt l V a1 σ0 Qk := by
  refine e_X12_paceAt (fun M hl hV hN C => ?_)
  subst hl
  subst hV
  have T : ∀ n : Nat, (∀ (x1 : Int32) (x2 : Int32) (x3 : Int32) (σ : Sg), MI σ → Fr [74, 129] [30] σ0 σ → (0 ≤ x1.toInt) → (x1.toInt ≤ 5) → (0 ≤ x3.toInt) → (x3.toInt ≤ 60) → ((gi σ 74 12).toInt = (gi σ0 74 12).toInt) → ((gi σ0 74 12).toInt < 0 ∨ (0 ≤ (gi σ0 74 12).toInt ∧ 10 * (gi σ0 74 12).toInt ≤ x3.toInt)) → (61 - x3.toInt).toNat < n → PS M 13 [(0, .ref 74), (1, .int x1), (2, .int x2), (3, .int x3)] [] σ (0, 0)) := by
    intro n
    induction n with
    | zero => exact fun _ _ _ _ _ _ _ _ _ _ _ _ h8 => absurd h8 (Nat.not_lt_zero _)
    | succ n ih =>
      have ih13 := ih
      · intro x1 x2 x3 σ mσ fσ lx1 ux1 lx3 ux3 i0 i1 hmu
        refine s_X12_paceAt_13 C hN ?_
        refine k_X12_behind mσ  (fun r2 σ1 mσ1 cσ1 plσ1 phσ1 (pσ1_0 : ((gi σ 74 12).toInt < 0 ∧ r2.toInt = 0) ∨ (0 ≤ (gi σ 74 12).toInt ∧ r2.toInt = 10 * (gi σ 74 12).toInt + (gi σ 117 (gi σ 74 12).toNatClampNeg).toInt)) => ?_)
        obtain rfl := Fr_nil cσ1
        have t_1 := MI_f12 mσ
        refine ⟨?_, ?_⟩
        · intro q_2
          have b_3 : r2.toInt ≤ x3.toInt := Int32.le_iff_toInt_le.mp q_2
          refine k_X12_most mσ  (fun r5 σ4 mσ4 cσ4 (pσ4_0 : (0 : Int) ≤ r5.toInt ∧ x2.toInt ≤ r5.toInt ∧ (r5.toInt = (0 : Int) ∨ r5.toInt = x2.toInt)) => ?_)
          obtain rfl := Fr_nil cσ4
          exact h9ret r5 σ mσ fσ
        · intro q_2
          have b_4 : ¬ r2.toInt ≤ x3.toInt := fun h9 => q_2 (Int32.le_iff_toInt_le.mpr h9)
          have hv_5 : vp_in x3 60 := vp_in_iff.mpr ⟨by omega, by omega⟩
          refine ⟨hv_5, ?_⟩
          refine ⟨?_, ?_⟩
          · intro q_6
            have b_7 : (1 : Int) < (gi σ 118 x3.toNatClampNeg).toInt := Int32.lt_iff_toInt_lt.mp q_6
            intro v8 ev8
            have t_8 : (x3 + (1 : Int32)).toInt = x3.toInt + 1 := i_add (x := x3) (y := (1 : Int32)) (by show (_ : Int) ≤ x3.toInt + 1; omega) (by show x3.toInt + 1 ≤ (_ : Int); omega)
            have t_9 : v8.toInt = (x3 + (1 : Int32)).toInt := congrArg Int32.toInt ev8
            exact ih13 x1 x2 v8 σ mσ fσ (by omega) (by omega) (by omega) (by omega) (by first | with_reducible assumption | with_reducible rfl | omega | assumption | rfl) (by first | with_reducible assumption | with_reducible rfl | omega | assumption | rfl) (by omega)
          · intro q_6
            have b_10 : ¬ (1 : Int) < (gi σ 118 x3.toNatClampNeg).toInt := fun h9 => q_6 (Int32.lt_iff_toInt_lt.mpr h9)
            have hv_11 : vp_in x1 6 := vp_in_iff.mpr ⟨by omega, by omega⟩
            refine ⟨hv_11, ?_⟩
            have t_12 := MI_a110 mσ hv_11
            refine k_X12_holds mσ (by omega) (by omega) (by omega) (by omega) (okCl_of mσ (by omega) (by omega) (by omega) (by omega)) (fun r11 σ10 mσ10 cσ10 plσ10 phσ10 => ?_)
            have fσ10 : Fr [74, 129] [30] σ0 σ10 := Fr_tr fσ cσ10 (by decide +kernel) (by decide +kernel)
            have k_13 : (gi σ10 74 12).toInt = (gi σ 74 12).toInt := congrArg Int32.toInt (cσ10.2.1 12 (by decide +kernel))
            refine ⟨?_, ?_⟩
            · intro q_14
              have b_15 : ¬ r11.toInt = 0 := fun h9 => q_14 (Int32.toInt_inj.mp h9)
              refine ⟨hv_5, ?_⟩
              refine ⟨?_, ?_⟩
              · intro q_16
                have b_17 : ¬ (gi σ10 118 x3.toNatClampNeg).toInt = 0 := fun h9 => q_16 (Int32.toInt_inj.mp h9)
                refine ⟨hv_5, ?_⟩
                intro v16 ev16
                intro v17 ev17
                have t_18 : (x3 + (1 : Int32)).toInt = x3.toInt + 1 := i_add (x := x3) (y := (1 : Int32)) (by show (_ : Int) ≤ x3.toInt + 1; omega) (by show x3.toInt + 1 ≤ (_ : Int); omega)
                have t_19 : v17.toInt = (x3 + (1 : Int32)).toInt := congrArg Int32.toInt ev17
                exact ih13 x1 v16 v17 σ10 mσ10 fσ10 (by omega) (by omega) (by omega) (by omega) (by first | with_reducible assumption | with_reducible rfl | omega | assumption | rfl) (by first | with_reducible assumption | with_reducible rfl | omega | assumption | rfl) (by omega)
              · intro q_16
                have b_20 : (gi σ10 118 x3.toNatClampNeg).toInt = 0 := congrArg Int32.toInt q_16
                refine ⟨hv_5, ?_⟩
                intro v19 ev19
                intro v20 ev20
                have t_21 : (x3 + (1 : Int32)).toInt = x3.toInt + 1 := i_add (x := x3) (y := (1 : Int32)) (by show (_ : Int) ≤ x3.toInt + 1; omega) (by show x3.toInt + 1 ≤ (_ : Int); omega)
                have t_22 : v20.toInt = (x3 + (1 : Int32)).toInt := congrArg Int32.toInt ev20
                exact ih13 x1 v19 v20 σ10 mσ10 fσ10 (by omega) (by omega) (by omega) (by omega) (by first | with_reducible assumption | with_reducible rfl | omega | assumption | rfl) (by first | with_reducible assumption | with_reducible rfl | omega | assumption | rfl) (by omega)
            · intro q_14
              have b_23 : r11.toInt = 0 := congrArg Int32.toInt q_14
              intro v21 ev21
              have t_24 : (x3 + (1 : Int32)).toInt = x3.toInt + 1 := i_add (x := x3) (y := (1 : Int32)) (by show (_ : Int) ≤ x3.toInt + 1; omega) (by show x3.toInt + 1 ≤ (_ : Int); omega)
              have t_25 : v21.toInt = (x3 + (1 : Int32)).toInt := congrArg Int32.toInt ev21
              exact ih13 x1 x2 v21 σ10 mσ10 fσ10 (by omega) (by omega) (by omega) (by omega) (by first | with_reducible assumption | with_reducible rfl | omega | assumption | rfl) (by first | with_reducible assumption | with_reducible rfl | omega | assumption | rfl) (by omega)
  have U13 := T 90
  have f0 : Fr [74, 129] [30] σ0 σ0 := Fr_rf
  refine s_X12_paceAt_0 C hN ?_
  intro σ1 eσ1
  have mσ1 : MI σ1 := by rw [eσ1]; exact MIs_f30 m0 (by omega) (by omega)
  have fσ1 : Fr [74, 129] [30] σ0 σ1 := by rw [eσ1]; exact Fr_si f0 (by decide +kernel) (fun _ => by decide +kernel)
  have k_26 : (gi σ1 74 12).toInt = (gi σ0 74 12).toInt := gk_r eσ1 rfl
  refine k_X12_begin mσ1  (fun r3 σ2 mσ2 cσ2 plσ2 phσ2 (pσ2_0 : ((gi σ1 74 12).toInt < 0 ∧ r3.toInt = 0) ∨ (0 ≤ (gi σ1 74 12).toInt ∧ r3.toInt = 10 * (gi σ1 74 12).toInt)) => ?_)
  obtain rfl := Fr_nil cσ2
  have t_27 := MI_f12 mσ1
  have z_28 : (6 : Int32).toInt = 6 := rfl
  exact U13 a1 (6 : Int32) r3 σ1 mσ1 fσ1 (by omega) (by omega) (by omega) (by omega) (by first | with_reducible assumption | with_reducible rfl | omega | assumption | rfl) (by first | with_reducible assumption | with_reducible rfl | omega | assumption | rfl) (by omega)
set_option maxRecDepth 100000 in
set_option maxHeartbeats 4000000 in
theorem k_X12_strideAt {l : Launch} {V : Vx} {a1 : Int32} {σ0 : Sg} {Qk : Int32 → Sg → Prop} (m0 : MI σ0) (l_a1 : 0 ≤ a1.toInt) (u_a1 : a1.toInt ≤ 5) (h9ret : ∀ (r : Int32) (σ' : Sg), MI σ' → Fr [74, 129] [30] σ0 σ' → ((gi σ' 74 1).toInt = (gi σ0 74 1).toInt) → Qk r σ') : K_X12_strideAt l V a1 σ0 Qk := by
  refine e_X12_strideAt (fun M hl hV hN C => ?_)
  subst hl
  subst hV
  have f0 : Fr [74, 129] [30] σ0 σ0 := Fr_rf
  refine s_X12_strideAt_0 C hN ?_
  have hv_1 : vp_in a1 6 := vp_in_iff.mpr ⟨by omega, by omega⟩
  refine ⟨hv_1, ?_⟩
  intro v2 ev2
  have t_2 := MI_a110 m0 hv_1
  have t_3 : v2.toInt = (gi σ0 110 a1.toNatClampNeg).toInt := congrArg Int32.toInt ev2
  refine k_X12_paceAt m0 (by omega) (by omega) (fun r4 σ3 mσ3 cσ3 => ?_)
  have fσ3 : Fr [74, 129] [30] σ0 σ3 := Fr_tr f0 cσ3 (by decide +kernel) (by decide +kernel)
  have k_4 : (gi σ3 74 1).toInt = (gi σ0 74 1).toInt := congrArg Int32.toInt (cσ3.2.1 1 (by decide +kernel))
  refine k_X12_strideOf mσ3 (by omega) (by omega) (by omega) (by omega) (fun r6 σ5 mσ5 cσ5 => ?_)
  obtain rfl := Fr_nil cσ5
  refine k_X12_most mσ3  (fun r8 σ7 mσ7 cσ7 (pσ7_0 : (0 : Int) ≤ r8.toInt ∧ r6.toInt ≤ r8.toInt ∧ (r8.toInt = (0 : Int) ∨ r8.toInt = r6.toInt)) => ?_)
  obtain rfl := Fr_nil cσ7
  have hv_5 : vp_in v2 6 := vp_in_iff.mpr ⟨by omega, by omega⟩
  refine ⟨hv_5, ?_⟩
  refine ⟨?_, ?_⟩
  · intro q_6
    have b_7 : ¬ (gi σ3 106 v2.toNatClampNeg).toInt = 0 := fun h9 => q_6 (Int32.toInt_inj.mp h9)
    exact h9ret r8 σ3 mσ3 fσ3 (by first | with_reducible assumption | with_reducible rfl | omega | assumption | rfl)
  · intro q_6
    have b_8 : (gi σ3 106 v2.toNatClampNeg).toInt = 0 := congrArg Int32.toInt q_6
    exact h9ret (r8 / (2 : Int32)) σ3 mσ3 fσ3 (by first | with_reducible assumption | with_reducible rfl | omega | assumption | rfl)
set_option maxRecDepth 100000 in
set_option maxHeartbeats 4000000 in
theorem k_X12_goes {l : Launch} {V : Vx} {a1 : Int32} {σ0 : Sg} {Qk : Int32 → Sg → Prop} (m0 : MI σ0) (l_a1 : 0 ≤ a1.toInt) (u_a1 : a1.toInt ≤ 5) (h9ret : ∀ (r : Int32) (σ' : Sg), MI σ' → Fr [105, 106, 107, 108] [] σ0 σ' → (0 ≤ r.toInt) → (r.toInt ≤ 1) → Qk r σ') : K_X12_goes l V a1 σ0 Qk := by
  refine e_X12_goes (fun M hl hV hN C => ?_)
  subst hl
  subst hV
  have T : ∀ n : Nat, (∀ (x1 : Int32) (x2 : Int32) (z0 : Int32) (σ : Sg), MI σ → Fr [105, 106, 107, 108] [] σ0 σ → (0 ≤ x1.toInt) → (x1.toInt ≤ 5) → (0 ≤ x2.toInt) → (x2.toInt ≤ 5) → (z0.toInt ≤ 9999) → 2 < n → PS M 82 [(0, .ref 74), (1, .int x1), (2, .int x2)] [.int z0] σ (0, 0)) ∧ (∀ (x1 : Int32) (x5 : Int32) (σ : Sg), MI σ → Fr [105, 106, 107, 108] [] σ0 σ → (0 ≤ x1.toInt) → (x1.toInt ≤ 5) → 1 < n → PS M 203 [(0, .ref 74), (1, .int x1), (5, .int x5)] [] σ (0, 0)) := by
    intro n
    induction n with
    | zero => exact ⟨fun _ _ _ _ _ _ _ _ _ _ _ h8 => absurd h8 (Nat.not_lt_zero _), fun _ _ _ _ _ _ _ h8 => absurd h8 (Nat.not_lt_zero _)⟩
    | succ n ih =>
      obtain ⟨ih82, ih203⟩ := ih
      refine ⟨?_, ?_⟩
      · intro x1 x2 z0 σ mσ fσ lx1 ux1 lx2 ux2 i0 hmu
        refine s_X12_goes_82 C hN ?_
        have hv_1 : vp_in x2 6 := vp_in_iff.mpr ⟨by omega, by omega⟩
        refine ⟨hv_1, ?_⟩
        refine ⟨hv_1, ?_⟩
        have hv_2 : vp_in x1 6 := vp_in_iff.mpr ⟨by omega, by omega⟩
        refine ⟨hv_2, ?_⟩
        have t_3 := MI_a105 mσ hv_1
        refine k_X12_least mσ  (fun r5 σ4 mσ4 cσ4 (pσ4_0 : r5.toInt ≤ z0.toInt ∧ r5.toInt ≤ ((gi σ 105 x2.toNatClampNeg) + (gi σ 131 x1.toNatClampNeg)).toInt ∧ (r5.toInt = z0.toInt ∨ r5.toInt = ((gi σ 105 x2.toNatClampNeg) + (gi σ 131 x1.toNatClampNeg)).toInt)) => ?_)
        obtain rfl := Fr_nil cσ4
        refine k_X12_most mσ  (fun r7 σ6 mσ6 cσ6 (pσ6_0 : (gi σ 105 x2.toNatClampNeg).toInt ≤ r7.toInt ∧ r5.toInt ≤ r7.toInt ∧ (r7.toInt = (gi σ 105 x2.toNatClampNeg).toInt ∨ r7.toInt = r5.toInt)) => ?_)
        obtain rfl := Fr_nil cσ6
        refine ⟨hv_1, ?_⟩
        intro v9 ev9
        refine ⟨hv_1, ?_⟩
        intro σ11 eσ11
        have w_4 := Int32.toInt_lt r7
        have w_5 := Int32.le_toInt r7
        have mσ11 : MI σ11 := by rw [eσ11]; exact MIs_a105 mσ (by omega) (by omega)
        have fσ11 : Fr [105, 106, 107, 108] [] σ0 σ11 := by rw [eσ11]; exact Fr_si fσ (by decide +kernel) (fun h9 => absurd h9 (by decide +kernel))
        refine ⟨?_, ?_⟩
        · intro q_6
          have w_7 := Int32.toInt_lt v9
          have w_8 := Int32.le_toInt v9
          have b_9 : v9.toInt ≤ 0 := Int32.le_iff_toInt_le.mp q_6
          refine ⟨hv_1, ?_⟩
          refine k_X12_most mσ11  (fun r15 σ14 mσ14 cσ14 (pσ14_0 : (0 : Int) ≤ r15.toInt ∧ ((gi σ11 107 x2.toNatClampNeg) - (2 : Int32)).toInt ≤ r15.toInt ∧ (r15.toInt = (0 : Int) ∨ r15.toInt = ((gi σ11 107 x2.toNatClampNeg) - (2 : Int32)).toInt)) => ?_)
          obtain rfl := Fr_nil cσ14
          refine ⟨hv_1, ?_⟩
          intro σ17 eσ17
          have mσ17 : MI σ17 := by rw [eσ17]; exact MIs_au (a := 107) mσ11 rfl rfl
          have fσ17 : Fr [105, 106, 107, 108] [] σ0 σ17 := by rw [eσ17]; exact Fr_si fσ11 (by decide +kernel) (fun h9 => absurd h9 (by decide +kernel))
          exact ih203 x1 v9 σ17 mσ17 fσ17 (by omega) (by omega) (by omega)
        · intro q_6
          have w_10 := Int32.toInt_lt v9
          have w_11 := Int32.le_toInt v9
          have b_12 : ¬ v9.toInt ≤ 0 := fun h9 => q_6 (Int32.le_iff_toInt_le.mpr h9)
          refine ⟨hv_1, ?_⟩
          refine k_X12_most mσ11  (fun r20 σ19 mσ19 cσ19 (pσ19_0 : (0 : Int) ≤ r20.toInt ∧ ((gi σ11 106 x2.toNatClampNeg) - (1 : Int32)).toInt ≤ r20.toInt ∧ (r20.toInt = (0 : Int) ∨ r20.toInt = ((gi σ11 106 x2.toNatClampNeg) - (1 : Int32)).toInt)) => ?_)
          obtain rfl := Fr_nil cσ19
          refine ⟨hv_1, ?_⟩
          intro σ22 eσ22
          have mσ22 : MI σ22 := by rw [eσ22]; exact MIs_au (a := 106) mσ11 rfl rfl
          have fσ22 : Fr [105, 106, 107, 108] [] σ0 σ22 := by rw [eσ22]; exact Fr_si fσ11 (by decide +kernel) (fun h9 => absurd h9 (by decide +kernel))
          refine ⟨hv_1, ?_⟩
          refine k_X12_lastOf mσ22  (fun r25 σ24 mσ24 cσ24 => ?_)
          obtain rfl := Fr_nil cσ24
          refine k_X12_least mσ22  (fun r27 σ26 mσ26 cσ26 (pσ26_0 : r27.toInt ≤ (99 : Int) ∧ r27.toInt ≤ ((gi σ22 107 x2.toNatClampNeg) + r25).toInt ∧ (r27.toInt = (99 : Int) ∨ r27.toInt = ((gi σ22 107 x2.toNatClampNeg) + r25).toInt)) => ?_)
          obtain rfl := Fr_nil cσ26
          refine ⟨hv_1, ?_⟩
          intro σ29 eσ29
          have mσ29 : MI σ29 := by rw [eσ29]; exact MIs_au (a := 107) mσ22 rfl rfl
          have fσ29 : Fr [105, 106, 107, 108] [] σ0 σ29 := by rw [eσ29]; exact Fr_si fσ22 (by decide +kernel) (fun h9 => absurd h9 (by decide +kernel))
          exact ih203 x1 v9 σ29 mσ29 fσ29 (by omega) (by omega) (by omega)
      · intro x1 x5 σ mσ fσ lx1 ux1 hmu
        refine s_X12_goes_203 C hN ?_
        have hv_13 : vp_in x1 6 := vp_in_iff.mpr ⟨by omega, by omega⟩
        refine ⟨hv_13, ?_⟩
        refine ⟨?_, ?_⟩
        · intro q_14
          have w_15 := Int32.toInt_lt x5
          have w_16 := Int32.le_toInt x5
          have b_17 : (gi σ 131 x1.toNatClampNeg).toInt ≤ x5.toInt := Int32.le_iff_toInt_le.mp q_14
          have z_18 : (0 : Int32).toInt = 0 := rfl
          exact h9ret (0 : Int32) σ mσ fσ (by omega) (by omega)
        · intro q_14
          have w_19 := Int32.toInt_lt x5
          have w_20 := Int32.le_toInt x5
          have b_21 : ¬ (gi σ 131 x1.toNatClampNeg).toInt ≤ x5.toInt := fun h9 => q_14 (Int32.le_iff_toInt_le.mpr h9)
          have z_22 : (1 : Int32).toInt = 1 := rfl
          exact h9ret (1 : Int32) σ mσ fσ (by omega) (by omega)
  obtain ⟨U82, U203⟩ := T 9
  have f0 : Fr [105, 106, 107, 108] [] σ0 σ0 := Fr_rf
  refine s_X12_goes_0 C hN ?_
  have hv_23 : vp_in a1 6 := vp_in_iff.mpr ⟨by omega, by omega⟩
  refine ⟨hv_23, ?_⟩
  intro v2 ev2
  have t_24 := MI_a110 m0 hv_23
  have t_25 : v2.toInt = (gi σ0 110 a1.toNatClampNeg).toInt := congrArg Int32.toInt ev2
  have hv_26 : vp_in v2 6 := vp_in_iff.mpr ⟨by omega, by omega⟩
  refine ⟨hv_26, ?_⟩
  refine ⟨?_, ?_⟩
  · intro q_27
    have b_28 : (gi σ0 108 v2.toNatClampNeg).toInt ≤ 0 := Int32.le_iff_toInt_le.mp q_27
    refine ⟨?_, ?_⟩
    · intro q_29
      have b_30 : ¬ a1.toInt = 0 := fun h9 => q_29 (Int32.toInt_inj.mp h9)
      have t_31 : (a1 - (1 : Int32)).toInt = a1.toInt - 1 := i_sub (x := a1) (y := (1 : Int32)) (by show (_ : Int) ≤ a1.toInt - 1; omega) (by show a1.toInt - 1 ≤ (_ : Int); omega)
      have hv_32 : vp_in (a1 - (1 : Int32)) 6 := vp_in_iff.mpr ⟨by omega, by omega⟩
      refine ⟨hv_32, ?_⟩
      have t_33 := MI_a110 m0 hv_32
      have hv_34 : vp_in (gi σ0 110 (a1 - (1 : Int32)).toNatClampNeg) 6 := vp_in_iff.mpr ⟨by omega, by omega⟩
      refine ⟨hv_34, ?_⟩
      refine k_X12_gap m0  (fun r9 σ8 mσ8 cσ8 => ?_)
      obtain rfl := Fr_nil cσ8
      have t_35 := MI_a105 m0 hv_34
      refine k_X12_least m0  (fun r11 σ10 mσ10 cσ10 (pσ10_0 : r11.toInt ≤ (9999 : Int) ∧ r11.toInt ≤ ((gi σ0 105 (gi σ0 110 (a1 - (1 : Int32)).toNatClampNeg).toNatClampNeg) - r9).toInt ∧ (r11.toInt = (9999 : Int) ∨ r11.toInt = ((gi σ0 105 (gi σ0 110 (a1 - (1 : Int32)).toNatClampNeg).toNatClampNeg) - r9).toInt)) => ?_)
      obtain rfl := Fr_nil cσ10
      exact U82 a1 v2 r11 σ0 m0 f0 (by omega) (by omega) (by omega) (by omega) (by first | with_reducible assumption | with_reducible rfl | omega | assumption | rfl) (by omega)
    · intro q_29
      have b_36 : a1.toInt = 0 := congrArg Int32.toInt q_29
      have z_37 : (9999 : Int32).toInt = 9999 := rfl
      exact U82 a1 v2 (9999 : Int32) σ0 m0 f0 (by omega) (by omega) (by omega) (by omega) (by first | with_reducible assumption | with_reducible rfl | omega | assumption | rfl) (by omega)
  · intro q_27
    have b_38 : ¬ (gi σ0 108 v2.toNatClampNeg).toInt ≤ 0 := fun h9 => q_27 (Int32.le_iff_toInt_le.mpr h9)
    refine ⟨hv_26, ?_⟩
    refine ⟨hv_26, ?_⟩
    intro σ14 eσ14
    have mσ14 : MI σ14 := by rw [eσ14]; exact MIs_au (a := 108) m0 rfl rfl
    have fσ14 : Fr [105, 106, 107, 108] [] σ0 σ14 := by rw [eσ14]; exact Fr_si f0 (by decide +kernel) (fun h9 => absurd h9 (by decide +kernel))
    refine ⟨hv_26, ?_⟩
    refine k_X12_most mσ14  (fun r17 σ16 mσ16 cσ16 (pσ16_0 : (0 : Int) ≤ r17.toInt ∧ ((gi σ14 107 v2.toNatClampNeg) - (2 : Int32)).toInt ≤ r17.toInt ∧ (r17.toInt = (0 : Int) ∨ r17.toInt = ((gi σ14 107 v2.toNatClampNeg) - (2 : Int32)).toInt)) => ?_)
    obtain rfl := Fr_nil cσ16
    refine ⟨hv_26, ?_⟩
    intro σ19 eσ19
    have mσ19 : MI σ19 := by rw [eσ19]; exact MIs_au (a := 107) mσ14 rfl rfl
    have fσ19 : Fr [105, 106, 107, 108] [] σ0 σ19 := by rw [eσ19]; exact Fr_si fσ14 (by decide +kernel) (fun h9 => absurd h9 (by decide +kernel))
    have z_39 : (0 : Int32).toInt = 0 := rfl
    exact h9ret (0 : Int32) σ19 mσ19 fσ19 (by omega) (by omega)
set_option maxRecDepth 100000 in
set_option maxHeartbeats 4000000 in
theorem k_X12_goMinute {l : Launch} {V : Vx} {σ0 : Sg} {Qk : Int32 → Sg → Prop} (m0 : MI σ0) (pre0 : (gi σ0 74 1).toInt ≤ 19000) (h9ret : ∀ (r : Int32) (σ' : Sg), MI σ' → Fr [74, 105, 106, 107, 108, 129, 131, 132] [1, 30] σ0 σ' → ((gi σ' 74 1).toInt = (gi σ0 74 1).toInt + 1) → Qk r σ') : K_X12_goMinute l V σ0 Qk := by
  refine e_X12_goMinute (fun M hl hV hN C => ?_)
  subst hl
  subst hV
  have T : ∀ n : Nat, (∀ (x1 : Int32) (σ : Sg), MI σ → Fr [74, 105, 106, 107, 108, 129, 131, 132] [1, 30] σ0 σ → (0 ≤ x1.toInt) → (x1.toInt ≤ 6) → ((gi σ 74 1).toInt = (gi σ0 74 1).toInt) → (7 - x1.toInt).toNat + 100 < n → PS M 2 [(0, .ref 74), (1, .int x1)] [] σ (0, 0)) ∧ (∀ (x1 : Int32) (x2 : Int32) (σ : Sg), MI σ → Fr [74, 105, 106, 107, 108, 129, 131, 132] [1, 30] σ0 σ → (0 ≤ x2.toInt) → (x2.toInt ≤ 6) → ((gi σ 74 1).toInt = (gi σ0 74 1).toInt) → (7 - x2.toInt).toNat < n → PS M 31 [(0, .ref 74), (1, .int x1), (2, .int x2)] [] σ (0, 0)) := by
    intro n
    induction n with
    | zero => exact ⟨fun _ _ _ _ _ _ _ h8 => absurd h8 (Nat.not_lt_zero _), fun _ _ _ _ _ _ _ _ h8 => absurd h8 (Nat.not_lt_zero _)⟩
    | succ n ih =>
      obtain ⟨ih2, ih31⟩ := ih
      refine ⟨?_, ?_⟩
      · intro x1 σ mσ fσ lx1 ux1 i0 hmu
        refine s_X12_goMinute_2 C hN ?_
        refine ⟨?_, ?_⟩
        · intro q_1
          have t_2 := MI_f2 mσ
          have b_3 : (gi σ 74 2).toInt ≤ x1.toInt := Int32.le_iff_toInt_le.mp q_1
          have z_4 : (0 : Int32).toInt = 0 := rfl
          exact ih31 (0 : Int32) (0 : Int32) σ mσ fσ (by omega) (by omega) (by first | with_reducible assumption | with_reducible rfl | omega | assumption | rfl) (by omega)
        · intro q_1
          have t_5 := MI_f2 mσ
          have b_6 : ¬ (gi σ 74 2).toInt ≤ x1.toInt := fun h9 => q_1 (Int32.le_iff_toInt_le.mpr h9)
          refine k_X12_strideAt mσ (by omega) (by omega) (fun r3 σ2 mσ2 cσ2 (pσ2_0 : (gi σ2 74 1).toInt = (gi σ 74 1).toInt) => ?_)
          have fσ2 : Fr [74, 105, 106, 107, 108, 129, 131, 132] [1, 30] σ0 σ2 := Fr_tr fσ cσ2 (by decide +kernel) (by decide +kernel)
          have k_7 : (gi σ2 74 1).toInt = (gi σ 74 1).toInt := congrArg Int32.toInt (cσ2.2.1 1 (by decide +kernel))
          have k_8 : (gi σ2 74 2).toInt = (gi σ 74 2).toInt := congrArg Int32.toInt (cσ2.2.1 2 (by decide +kernel))
          have hv_9 : vp_in x1 6 := vp_in_iff.mpr ⟨by omega, by omega⟩
          refine ⟨hv_9, ?_⟩
          intro σ5 eσ5
          have mσ5 : MI σ5 := by rw [eσ5]; exact MIs_au (a := 131) mσ2 rfl rfl
          have fσ5 : Fr [74, 105, 106, 107, 108, 129, 131, 132] [1, 30] σ0 σ5 := by rw [eσ5]; exact Fr_si fσ2 (by decide +kernel) (fun h9 => absurd h9 (by decide +kernel))
          have k_10 : (gi σ5 74 1).toInt = (gi σ2 74 1).toInt := gk_l eσ5 rfl
          have k_11 : (gi σ5 74 2).toInt = (gi σ2 74 2).toInt := gk_l eσ5 rfl
          intro v6 ev6
          have t_12 : (x1 + (1 : Int32)).toInt = x1.toInt + 1 := i_add (x := x1) (y := (1 : Int32)) (by show (_ : Int) ≤ x1.toInt + 1; omega) (by show x1.toInt + 1 ≤ (_ : Int); omega)
          have t_13 : v6.toInt = (x1 + (1 : Int32)).toInt := congrArg Int32.toInt ev6
          exact ih2 v6 σ5 mσ5 fσ5 (by omega) (by omega) (by first | with_reducible assumption | with_reducible rfl | omega | assumption | rfl) (by omega)
      · intro x1 x2 σ mσ fσ lx2 ux2 i0 hmu
        refine s_X12_goMinute_31 C hN ?_
        refine ⟨?_, ?_⟩
        · intro q_14
          have t_15 := MI_f2 mσ
          have b_16 : (gi σ 74 2).toInt ≤ x2.toInt := Int32.le_iff_toInt_le.mp q_14
          intro σ2 eσ2
          have t_17 := MI_f1 mσ
          have t_18 : ((gi σ 74 1) + (1 : Int32)).toInt = (gi σ 74 1).toInt + 1 := i_add (x := (gi σ 74 1)) (y := (1 : Int32)) (by show (_ : Int) ≤ (gi σ 74 1).toInt + 1; omega) (by show (gi σ 74 1).toInt + 1 ≤ (_ : Int); omega)
          have mσ2 : MI σ2 := by rw [eσ2]; exact MIs_f1 mσ (by omega) (by omega)
          have fσ2 : Fr [74, 105, 106, 107, 108, 129, 131, 132] [1, 30] σ0 σ2 := by rw [eσ2]; exact Fr_si fσ (by decide +kernel) (fun _ => by decide +kernel)
          have k_19 : (gi σ2 74 1).toInt = ((gi σ 74 1) + (1 : Int32)).toInt := by rw [eσ2]; exact congrArg Int32.toInt gi_si_eq
          have k_20 : (gi σ2 74 2).toInt = (gi σ 74 2).toInt := gk_r eσ2 rfl
          exact h9ret x1 σ2 mσ2 fσ2 (by first | with_reducible assumption | with_reducible rfl | omega | assumption | rfl)
        · intro q_14
          have t_21 := MI_f2 mσ
          have b_22 : ¬ (gi σ 74 2).toInt ≤ x2.toInt := fun h9 => q_14 (Int32.le_iff_toInt_le.mpr h9)
          refine k_X12_goes mσ (by omega) (by omega) (fun r4 σ3 mσ3 cσ3 plσ3 phσ3 => ?_)
          have fσ3 : Fr [74, 105, 106, 107, 108, 129, 131, 132] [1, 30] σ0 σ3 := Fr_tr fσ cσ3 (by decide +kernel) (by decide +kernel)
          have k_23 : (gi σ3 74 1).toInt = (gi σ 74 1).toInt := congrArg Int32.toInt (cσ3.2.1 1 (by decide +kernel))
          have k_24 : (gi σ3 74 2).toInt = (gi σ 74 2).toInt := congrArg Int32.toInt (cσ3.2.1 2 (by decide +kernel))
          refine ⟨?_, ?_⟩
          · intro q_25
            have b_26 : ¬ r4.toInt = 0 := fun h9 => q_25 (Int32.toInt_inj.mp h9)
            have hv_27 : vp_in x2 6 := vp_in_iff.mpr ⟨by omega, by omega⟩
            refine ⟨hv_27, ?_⟩
            intro v7 ev7
            have t_28 := MI_a110 mσ3 hv_27
            refine ⟨hv_27, ?_⟩
            have hv_29 : vp_in (gi σ3 110 x2.toNatClampNeg) 6 := vp_in_iff.mpr ⟨by omega, by omega⟩
            refine ⟨hv_29, ?_⟩
            refine ⟨hv_29, ?_⟩
            intro σ11 eσ11
            have mσ11 : MI σ11 := by rw [eσ11]; exact MIs_au (a := 132) mσ3 rfl rfl
            have fσ11 : Fr [74, 105, 106, 107, 108, 129, 131, 132] [1, 30] σ0 σ11 := by rw [eσ11]; exact Fr_si fσ3 (by decide +kernel) (fun h9 => absurd h9 (by decide +kernel))
            have k_30 : (gi σ11 74 1).toInt = (gi σ3 74 1).toInt := gk_l eσ11 rfl
            have k_31 : (gi σ11 74 2).toInt = (gi σ3 74 2).toInt := gk_l eσ11 rfl
            intro v12 ev12
            have t_32 : (x2 + (1 : Int32)).toInt = x2.toInt + 1 := i_add (x := x2) (y := (1 : Int32)) (by show (_ : Int) ≤ x2.toInt + 1; omega) (by show x2.toInt + 1 ≤ (_ : Int); omega)
            have t_33 : v12.toInt = (x2 + (1 : Int32)).toInt := congrArg Int32.toInt ev12
            exact ih31 v7 v12 σ11 mσ11 fσ11 (by omega) (by omega) (by first | with_reducible assumption | with_reducible rfl | omega | assumption | rfl) (by omega)
          · intro q_25
            have b_34 : r4.toInt = 0 := congrArg Int32.toInt q_25
            intro v13 ev13
            have t_35 : (x2 + (1 : Int32)).toInt = x2.toInt + 1 := i_add (x := x2) (y := (1 : Int32)) (by show (_ : Int) ≤ x2.toInt + 1; omega) (by show x2.toInt + 1 ≤ (_ : Int); omega)
            have t_36 : v13.toInt = (x2 + (1 : Int32)).toInt := congrArg Int32.toInt ev13
            exact ih31 x1 v13 σ3 mσ3 fσ3 (by omega) (by omega) (by first | with_reducible assumption | with_reducible rfl | omega | assumption | rfl) (by omega)
  obtain ⟨U2, U31⟩ := T 900
  have f0 : Fr [74, 105, 106, 107, 108, 129, 131, 132] [1, 30] σ0 σ0 := Fr_rf
  refine s_X12_goMinute_0 C hN ?_
  have z_37 : (0 : Int32).toInt = 0 := rfl
  exact U2 (0 : Int32) σ0 m0 f0 (by omega) (by omega) (by first | with_reducible assumption | with_reducible rfl | omega | assumption | rfl) (by omega)
set_option maxRecDepth 100000 in
set_option maxHeartbeats 4000000 in
theorem k_X12_goMinutes {l : Launch} {V : Vx} {a1 : Int32} {σ0 : Sg} {Qk : Sg → Prop} (m0 : MI σ0) (l_a1 : -100 ≤ a1.toInt) (u_a1 : a1.toInt ≤ 200) (pre0 : (gi σ0 74 1).toInt ≤ 18000) (h9ret : ∀ (σ' : Sg), MI σ' → Fr [74, 105, 106, 107, 108, 129, 131, 132] [1, 30] σ0 σ' → ((a1.toInt ≤ 0 ∧ (gi σ' 74 1).toInt = (gi σ0 74 1).toInt) ∨ (0 ≤ a1.toInt ∧ (gi σ' 74 1).toInt = (gi σ0 74 1).toInt + a1.toInt)) → Qk σ') : K_X12_goMinutes l V a1 σ0 Qk := by
  refine e_X12_goMinutes (fun M hl hV hN C => ?_)
  subst hl
  subst hV
  have T : ∀ n : Nat, (∀ (x1 : Int32) (x2 : Int32) (σ : Sg), MI σ → Fr [74, 105, 106, 107, 108, 129, 131, 132] [1, 30] σ0 σ → (-100 ≤ x1.toInt) → (x1.toInt ≤ 200) → (0 ≤ x2.toInt) → (x2.toInt ≤ 200) → (x1.toInt = a1.toInt) → ((gi σ 74 1).toInt = (gi σ0 74 1).toInt + x2.toInt) → (x2.toInt ≤ 0 ∨ x2.toInt ≤ a1.toInt) → (201 - x2.toInt).toNat < n → PS M 2 [(0, .ref 74), (1, .int x1), (2, .int x2)] [] σ (0, 0)) := by
    intro n
    induction n with
    | zero => exact fun _ _ _ _ _ _ _ _ _ _ _ _ h8 => absurd h8 (Nat.not_lt_zero _)
    | succ n ih =>
      have ih2 := ih
      · intro x1 x2 σ mσ fσ lx1 ux1 lx2 ux2 i0 i1 i2 hmu
        refine s_X12_goMinutes_2 C hN ?_
        refine ⟨?_, ?_⟩
        · intro q_1
          have b_2 : x1.toInt ≤ x2.toInt := Int32.le_iff_toInt_le.mp q_1
          exact h9ret σ mσ fσ (by first | with_reducible assumption | with_reducible rfl | omega | assumption | rfl)
        · intro q_1
          have b_3 : ¬ x1.toInt ≤ x2.toInt := fun h9 => q_1 (Int32.le_iff_toInt_le.mpr h9)
          refine k_X12_goMinute mσ (by first | with_reducible assumption | with_reducible rfl | omega | assumption | rfl) (fun r3 σ2 mσ2 cσ2 (pσ2_0 : (gi σ2 74 1).toInt = (gi σ 74 1).toInt + 1) => ?_)
          have fσ2 : Fr [74, 105, 106, 107, 108, 129, 131, 132] [1, 30] σ0 σ2 := Fr_tr fσ cσ2 (by decide +kernel) (by decide +kernel)
          intro v4 ev4
          have t_4 : (x2 + (1 : Int32)).toInt = x2.toInt + 1 := i_add (x := x2) (y := (1 : Int32)) (by show (_ : Int) ≤ x2.toInt + 1; omega) (by show x2.toInt + 1 ≤ (_ : Int); omega)
          have t_5 : v4.toInt = (x2 + (1 : Int32)).toInt := congrArg Int32.toInt ev4
          exact ih2 x1 v4 σ2 mσ2 fσ2 (by omega) (by omega) (by omega) (by omega) (by first | with_reducible assumption | with_reducible rfl | omega | assumption | rfl) (by first | with_reducible assumption | with_reducible rfl | omega | assumption | rfl) (by first | with_reducible assumption | with_reducible rfl | omega | assumption | rfl) (by omega)
  have U2 := T 300
  have f0 : Fr [74, 105, 106, 107, 108, 129, 131, 132] [1, 30] σ0 σ0 := Fr_rf
  refine s_X12_goMinutes_0 C hN ?_
  have z_6 : (0 : Int32).toInt = 0 := rfl
  exact U2 a1 (0 : Int32) σ0 m0 f0 (by omega) (by omega) (by omega) (by omega) (by first | with_reducible assumption | with_reducible rfl | omega | assumption | rfl) (by first | with_reducible assumption | with_reducible rfl | omega | assumption | rfl) (by first | with_reducible assumption | with_reducible rfl | omega | assumption | rfl) (by omega)
set_option maxRecDepth 100000 in
set_option maxHeartbeats 4000000 in
theorem k_X12_allBehind {l : Launch} {V : Vx} {a1 : Int32} {σ0 : Sg} {Qk : Int32 → Sg → Prop} (m0 : MI σ0) (l_a1 : 0 ≤ a1.toInt) (u_a1 : a1.toInt ≤ 200) (pre0 : (gi σ0 74 1).toInt ≤ 9999) (h9ret : ∀ (r : Int32) (σ' : Sg), MI σ' → Fr [74, 105, 106, 107, 108, 129, 131, 132, 134, 135, 136, 137] [1, 30, 33] σ0 σ' → (0 ≤ r.toInt) → (r.toInt ≤ 59994) → ((gi σ' 74 1).toInt = (gi σ0 74 1).toInt) → Qk r σ') : K_X12_allBehind l V a1 σ0 Qk := by
  refine e_X12_allBehind (fun M hl hV hN C => ?_)
  subst hl
  subst hV
  have f0 : Fr [74, 105, 106, 107, 108, 129, 131, 132, 134, 135, 136, 137] [1, 30, 33] σ0 σ0 := Fr_rf
  refine s_X12_allBehind_0 C hN ?_
  refine k_X12_save m0  (fun σ1 mσ1 cσ1 (pσ1_0 : (gi σ1 74 33).toInt = (gi σ0 74 1).toInt) => ?_)
  have fσ1 : Fr [74, 105, 106, 107, 108, 129, 131, 132, 134, 135, 136, 137] [1, 30, 33] σ0 σ1 := Fr_tr f0 cσ1 (by decide +kernel) (by decide +kernel)
  have k_1 : (gi σ1 74 1).toInt = (gi σ0 74 1).toInt := congrArg Int32.toInt (cσ1.2.1 1 (by decide +kernel))
  refine k_X12_goMinutes mσ1 (by omega) (by omega) (by first | with_reducible assumption | with_reducible rfl | omega | assumption | rfl) (fun σ2 mσ2 cσ2 (pσ2_0 : (a1.toInt ≤ 0 ∧ (gi σ2 74 1).toInt = (gi σ1 74 1).toInt) ∨ (0 ≤ a1.toInt ∧ (gi σ2 74 1).toInt = (gi σ1 74 1).toInt + a1.toInt)) => ?_)
  have fσ2 : Fr [74, 105, 106, 107, 108, 129, 131, 132, 134, 135, 136, 137] [1, 30, 33] σ0 σ2 := Fr_tr fσ1 cσ2 (by decide +kernel) (by decide +kernel)
  have k_2 : (gi σ2 74 33).toInt = (gi σ1 74 33).toInt := congrArg Int32.toInt (cσ2.2.1 33 (by decide +kernel))
  refine k_X12_all mσ2  (fun r4 σ3 mσ3 cσ3 plσ3 phσ3 => ?_)
  obtain rfl := Fr_nil cσ3
  refine k_X12_putBack mσ2  (fun σ5 mσ5 cσ5 (pσ5_0 : (gi σ5 74 1).toInt = (gi σ2 74 33).toInt) => ?_)
  have fσ5 : Fr [74, 105, 106, 107, 108, 129, 131, 132, 134, 135, 136, 137] [1, 30, 33] σ0 σ5 := Fr_tr fσ2 cσ5 (by decide +kernel) (by decide +kernel)
  have k_3 : (gi σ5 74 33).toInt = (gi σ2 74 33).toInt := congrArg Int32.toInt (cσ5.2.1 33 (by decide +kernel))
  exact h9ret r4 σ5 mσ5 fσ5 (by omega) (by omega) (by first | with_reducible assumption | with_reducible rfl | omega | assumption | rfl)
set_option maxRecDepth 100000 in
set_option maxHeartbeats 4000000 in
theorem k_X12_apart {l : Launch} {V : Vx} {a1 : Int32} {a2 : Int32} {σ0 : Sg} {Qk : Int32 → Sg → Prop} (m0 : MI σ0) (pre0 : (gi σ0 74 1).toInt ≤ 9999) (h9ret : ∀ (r : Int32) (σ' : Sg), MI σ' → Fr [74, 105, 106, 107, 108, 129, 131, 132, 134, 135, 136, 137] [1, 28, 30, 33] σ0 σ' → ((gi σ' 74 1).toInt = (gi σ0 74 1).toInt) → Qk r σ') : K_X12_apart l V a1 a2 σ0 Qk := by
  refine e_X12_apart (fun M hl hV hN C => ?_)
  subst hl
  subst hV
  have T : ∀ n : Nat, (∀ (x1 : Int32) (x2 : Int32) (x3 : Int32) (x4 : Int32) (x5 : Int32) (σ : Sg), MI σ → Fr [74, 105, 106, 107, 108, 129, 131, 132, 134, 135, 136, 137] [1, 28, 30, 33] σ0 σ → (1 ≤ x1.toInt) → (x1.toInt ≤ 60) → (0 ≤ x5.toInt) → (x5.toInt ≤ 10) → ((gi σ 74 1).toInt = (gi σ0 74 1).toInt) → (11 - x5.toInt).toNat < n → PS M 34 [(0, .ref 74), (1, .int x1), (2, .int x2), (3, .int x3), (4, .int x4), (5, .int x5)] [] σ (0, 0)) := by
    intro n
    induction n with
    | zero => exact fun _ _ _ _ _ _ _ _ _ _ _ _ _ h8 => absurd h8 (Nat.not_lt_zero _)
    | succ n ih =>
      have ih34 := ih
      · intro x1 x2 x3 x4 x5 σ mσ fσ lx1 ux1 lx5 ux5 i0 hmu
        refine s_X12_apart_34 C hN ?_
        refine ⟨?_, ?_⟩
        · intro q_1
          have b_2 : (10 : Int) ≤ x5.toInt := Int32.le_iff_toInt_le.mp q_1
          intro σ2 eσ2
          have mσ2 : MI σ2 := by rw [eσ2]; exact MIs_fu mσ (by decide +kernel)
          have fσ2 : Fr [74, 105, 106, 107, 108, 129, 131, 132, 134, 135, 136, 137] [1, 28, 30, 33] σ0 σ2 := by rw [eσ2]; exact Fr_si fσ (by decide +kernel) (fun _ => by decide +kernel)
          have k_3 : (gi σ2 74 1).toInt = (gi σ 74 1).toInt := gk_r eσ2 rfl
          refine ⟨?_, ?_⟩
          · intro q_4
            have w_5 := Int32.toInt_lt x2
            have w_6 := Int32.le_toInt x2
            have b_7 : ¬ x2.toInt = 0 := fun h9 => q_4 (Int32.toInt_inj.mp h9)
            exact h9ret x4 σ2 mσ2 fσ2 (by first | with_reducible assumption | with_reducible rfl | omega | assumption | rfl)
          · intro q_4
            have w_8 := Int32.toInt_lt x2
            have w_9 := Int32.le_toInt x2
            have b_10 : x2.toInt = 0 := congrArg Int32.toInt q_4
            exact h9ret x3 σ2 mσ2 fσ2 (by first | with_reducible assumption | with_reducible rfl | omega | assumption | rfl)
        · intro q_1
          have b_11 : ¬ (10 : Int) ≤ x5.toInt := fun h9 => q_1 (Int32.le_iff_toInt_le.mpr h9)
          intro σ4 eσ4
          have mσ4 : MI σ4 := by rw [eσ4]; exact MIs_fu mσ (by decide +kernel)
          have fσ4 : Fr [74, 105, 106, 107, 108, 129, 131, 132, 134, 135, 136, 137] [1, 28, 30, 33] σ0 σ4 := by rw [eσ4]; exact Fr_si fσ (by decide +kernel) (fun _ => by decide +kernel)
          have k_12 : (gi σ4 74 1).toInt = (gi σ 74 1).toInt := gk_r eσ4 rfl
          refine k_X12_allBehind mσ4 (by omega) (by omega) (by first | with_reducible assumption | with_reducible rfl | omega | assumption | rfl) (fun r6 σ5 mσ5 cσ5 plσ5 phσ5 (pσ5_0 : (gi σ5 74 1).toInt = (gi σ4 74 1).toInt) => ?_)
          have fσ5 : Fr [74, 105, 106, 107, 108, 129, 131, 132, 134, 135, 136, 137] [1, 28, 30, 33] σ0 σ5 := Fr_tr fσ4 cσ5 (by decide +kernel) (by decide +kernel)
          refine ⟨?_, ?_⟩
          · intro q_13
            have w_14 := Int32.toInt_lt x4
            have w_15 := Int32.le_toInt x4
            have b_16 : x4.toInt < r6.toInt := Int32.lt_iff_toInt_lt.mp q_13
            intro v8 ev8
            have t_17 : (x5 + (1 : Int32)).toInt = x5.toInt + 1 := i_add (x := x5) (y := (1 : Int32)) (by show (_ : Int) ≤ x5.toInt + 1; omega) (by show x5.toInt + 1 ≤ (_ : Int); omega)
            have t_18 : v8.toInt = (x5 + (1 : Int32)).toInt := congrArg Int32.toInt ev8
            exact ih34 x1 x2 x5 r6 v8 σ5 mσ5 fσ5 (by omega) (by omega) (by omega) (by omega) (by first | with_reducible assumption | with_reducible rfl | omega | assumption | rfl) (by omega)
          · intro q_13
            have w_19 := Int32.toInt_lt x4
            have w_20 := Int32.le_toInt x4
            have b_21 : ¬ x4.toInt < r6.toInt := fun h9 => q_13 (Int32.lt_iff_toInt_lt.mpr h9)
            intro v9 ev9
            have t_22 : (x5 + (1 : Int32)).toInt = x5.toInt + 1 := i_add (x := x5) (y := (1 : Int32)) (by show (_ : Int) ≤ x5.toInt + 1; omega) (by show x5.toInt + 1 ≤ (_ : Int); omega)
            have t_23 : v9.toInt = (x5 + (1 : Int32)).toInt := congrArg Int32.toInt ev9
            exact ih34 x1 x2 x3 x4 v9 σ5 mσ5 fσ5 (by omega) (by omega) (by omega) (by omega) (by first | with_reducible assumption | with_reducible rfl | omega | assumption | rfl) (by omega)
  have U34 := T 20
  have f0 : Fr [74, 105, 106, 107, 108, 129, 131, 132, 134, 135, 136, 137] [1, 28, 30, 33] σ0 σ0 := Fr_rf
  refine s_X12_apart_0 C hN ?_
  refine k_X12_in m0  (fun r2 σ1 mσ1 cσ1 plσ1 phσ1 (pσ1_0 : (r2.toInt = 1 ∧ (0 : Int) ≤ a2.toInt ∧ a2.toInt ≤ (1 : Int)) ∨ (r2.toInt = 0 ∧ (a2.toInt < (0 : Int) ∨ (1 : Int) < a2.toInt))) => ?_)
  obtain rfl := Fr_nil cσ1
  refine ⟨?_, ?_⟩
  · intro q_24
    have b_25 : ¬ r2.toInt = 0 := fun h9 => q_24 (Int32.toInt_inj.mp h9)
    refine k_X12_in m0  (fun r5 σ4 mσ4 cσ4 plσ4 phσ4 (pσ4_0 : (r5.toInt = 1 ∧ (1 : Int) ≤ a1.toInt ∧ a1.toInt ≤ (60 : Int)) ∨ (r5.toInt = 0 ∧ (a1.toInt < (1 : Int) ∨ (60 : Int) < a1.toInt))) => ?_)
    obtain rfl := Fr_nil cσ4
    refine ⟨?_, ?_⟩
    · intro q_26
      have b_27 : ¬ r5.toInt = 0 := fun h9 => q_26 (Int32.toInt_inj.mp h9)
      have z_28 : (0 : Int32).toInt = 0 := rfl
      have z_29 : (-1 : Int32).toInt = -1 := rfl
      exact U34 a1 a2 (0 : Int32) (-1 : Int32) (0 : Int32) σ0 m0 f0 (by omega) (by omega) (by omega) (by omega) (by first | with_reducible assumption | with_reducible rfl | omega | assumption | rfl) (by omega)
    · intro q_26
      have b_30 : r5.toInt = 0 := congrArg Int32.toInt q_26
      have z_31 : (-2 : Int32).toInt = -2 := rfl
      exact h9ret (-2 : Int32) σ0 m0 f0 (by first | with_reducible assumption | with_reducible rfl | omega | assumption | rfl)
  · intro q_24
    have b_32 : r2.toInt = 0 := congrArg Int32.toInt q_24
    have z_33 : (-1 : Int32).toInt = -1 := rfl
    exact h9ret (-1 : Int32) σ0 m0 f0 (by first | with_reducible assumption | with_reducible rfl | omega | assumption | rfl)
set_option maxRecDepth 100000 in
set_option maxHeartbeats 4000000 in
theorem k_X12_looked {l : Launch} {V : Vx} {σ0 : Sg} {Qk : Int32 → Sg → Prop} (m0 : MI σ0) (pre0 : (gi σ0 74 1).toInt ≤ 9999) (h9ret : ∀ (r : Int32) (σ' : Sg), MI σ' → Fr [74, 105, 106, 107, 108, 129, 131, 132, 134, 135, 136, 137] [1, 30, 33] σ0 σ' → ((gi σ' 74 1).toInt = (gi σ0 74 1).toInt) → Qk r σ') : K_X12_looked l V σ0 Qk := by
  refine e_X12_looked (fun M hl hV hN C => ?_)
  subst hl
  subst hV
  have T : ∀ n : Nat, (∀ (x1 : Int32) (x2 : Int32) (σ : Sg), MI σ → Fr [74, 105, 106, 107, 108, 129, 131, 132, 134, 135, 136, 137] [1, 30, 33] σ0 σ → (0 ≤ x2.toInt) → (x2.toInt ≤ 8) → ((gi σ 74 1).toInt = (gi σ0 74 1).toInt) → (9 - x2.toInt).toNat < n → PS M 15 [(0, .ref 74), (1, .int x1), (2, .int x2)] [] σ (0, 0)) := by
    intro n
    induction n with
    | zero => exact fun _ _ _ _ _ _ _ _ h8 => absurd h8 (Nat.not_lt_zero _)
    | succ n ih =>
      have ih15 := ih
      · intro x1 x2 σ mσ fσ lx2 ux2 i0 hmu
        refine s_X12_looked_15 C hN ?_
        refine ⟨?_, ?_⟩
        · intro q_1
          have t_2 := MI_f46 mσ
          have b_3 : (gi σ 74 46).toInt ≤ x2.toInt := Int32.le_iff_toInt_le.mp q_1
          have z_4 : (-5 : Int32).toInt = -5 := rfl
          exact h9ret (-5 : Int32) σ mσ fσ (by first | with_reducible assumption | with_reducible rfl | omega | assumption | rfl)
        · intro q_1
          have t_5 := MI_f46 mσ
          have b_6 : ¬ (gi σ 74 46).toInt ≤ x2.toInt := fun h9 => q_1 (Int32.le_iff_toInt_le.mpr h9)
          have hv_7 : vp_in x2 8 := vp_in_iff.mpr ⟨by omega, by omega⟩
          refine ⟨hv_7, ?_⟩
          refine k_X12_has mσ  (fun r4 σ3 mσ3 cσ3 plσ3 phσ3 => ?_)
          obtain rfl := Fr_nil cσ3
          refine ⟨?_, ?_⟩
          · intro q_8
            have b_9 : ¬ r4.toInt = 0 := fun h9 => q_8 (Int32.toInt_inj.mp h9)
            intro v6 ev6
            have t_10 : (x2 + (1 : Int32)).toInt = x2.toInt + 1 := i_add (x := x2) (y := (1 : Int32)) (by show (_ : Int) ≤ x2.toInt + 1; omega) (by show x2.toInt + 1 ≤ (_ : Int); omega)
            have t_11 : v6.toInt = (x2 + (1 : Int32)).toInt := congrArg Int32.toInt ev6
            exact ih15 x1 v6 σ mσ fσ (by omega) (by omega) (by first | with_reducible assumption | with_reducible rfl | omega | assumption | rfl) (by omega)
          · intro q_8
            have b_12 : r4.toInt = 0 := congrArg Int32.toInt q_8
            exact h9ret x2 σ mσ fσ (by first | with_reducible assumption | with_reducible rfl | omega | assumption | rfl)
  have U15 := T 20
  have f0 : Fr [74, 105, 106, 107, 108, 129, 131, 132, 134, 135, 136, 137] [1, 30, 33] σ0 σ0 := Fr_rf
  refine s_X12_looked_0 C hN ?_
  refine k_X12_save m0  (fun σ1 mσ1 cσ1 (pσ1_0 : (gi σ1 74 33).toInt = (gi σ0 74 1).toInt) => ?_)
  have fσ1 : Fr [74, 105, 106, 107, 108, 129, 131, 132, 134, 135, 136, 137] [1, 30, 33] σ0 σ1 := Fr_tr f0 cσ1 (by decide +kernel) (by decide +kernel)
  have k_13 : (gi σ1 74 1).toInt = (gi σ0 74 1).toInt := congrArg Int32.toInt (cσ1.2.1 1 (by decide +kernel))
  refine k_X12_goMinute mσ1 (by first | with_reducible assumption | with_reducible rfl | omega | assumption | rfl) (fun r3 σ2 mσ2 cσ2 (pσ2_0 : (gi σ2 74 1).toInt = (gi σ1 74 1).toInt + 1) => ?_)
  have fσ2 : Fr [74, 105, 106, 107, 108, 129, 131, 132, 134, 135, 136, 137] [1, 30, 33] σ0 σ2 := Fr_tr fσ1 cσ2 (by decide +kernel) (by decide +kernel)
  have k_14 : (gi σ2 74 33).toInt = (gi σ1 74 33).toInt := congrArg Int32.toInt (cσ2.2.1 33 (by decide +kernel))
  refine k_X12_putBack mσ2  (fun σ4 mσ4 cσ4 (pσ4_0 : (gi σ4 74 1).toInt = (gi σ2 74 33).toInt) => ?_)
  have fσ4 : Fr [74, 105, 106, 107, 108, 129, 131, 132, 134, 135, 136, 137] [1, 30, 33] σ0 σ4 := Fr_tr fσ2 cσ4 (by decide +kernel) (by decide +kernel)
  have k_15 : (gi σ4 74 33).toInt = (gi σ2 74 33).toInt := congrArg Int32.toInt (cσ4.2.1 33 (by decide +kernel))
  have z_16 : (0 : Int32).toInt = 0 := rfl
  exact U15 r3 (0 : Int32) σ4 mσ4 fσ4 (by omega) (by omega) (by first | with_reducible assumption | with_reducible rfl | omega | assumption | rfl) (by omega)
set_option maxRecDepth 100000 in
set_option maxHeartbeats 4000000 in
theorem k_X12_allStopped {l : Launch} {V : Vx} {a1 : Int32} {a2 : Int32} {a3 : Int32} {σ0 : Sg} {Qk : Int32 → Sg → Prop} (m0 : MI σ0) (l_a1 : 0 ≤ a1.toInt) (u_a1 : a1.toInt ≤ 5) (l_a3 : 0 ≤ a3.toInt) (u_a3 : a3.toInt ≤ 60) (pre0 : (gi σ0 74 1).toInt ≤ 9999) (h9ret : ∀ (r : Int32) (σ' : Sg), MI σ' → Fr [74, 105, 106, 107, 108, 129, 131, 132, 134, 135, 136, 137] [1, 30, 33] σ0 σ' → ((gi σ' 74 1).toInt = (gi σ0 74 1).toInt) → Qk r σ') : K_X12_allStopped l V a1 a2 a3 σ0 Qk := by
  refine e_X12_allStopped (fun M hl hV hN C => ?_)
  subst hl
  subst hV
  have f0 : Fr [74, 105, 106, 107, 108, 129, 131, 132, 134, 135, 136, 137] [1, 30, 33] σ0 σ0 := Fr_rf
  refine s_X12_allStopped_0 C hN ?_
  refine k_X12_save m0  (fun σ1 mσ1 cσ1 (pσ1_0 : (gi σ1 74 33).toInt = (gi σ0 74 1).toInt) => ?_)
  have fσ1 : Fr [74, 105, 106, 107, 108, 129, 131, 132, 134, 135, 136, 137] [1, 30, 33] σ0 σ1 := Fr_tr f0 cσ1 (by decide +kernel) (by decide +kernel)
  have k_1 : (gi σ1 74 1).toInt = (gi σ0 74 1).toInt := congrArg Int32.toInt (cσ1.2.1 1 (by decide +kernel))
  have hv_2 : vp_in a1 6 := vp_in_iff.mpr ⟨by omega, by omega⟩
  refine ⟨hv_2, ?_⟩
  refine ⟨hv_2, ?_⟩
  intro σ4 eσ4
  have mσ4 : MI σ4 := by rw [eσ4]; exact MIs_au (a := 108) mσ1 rfl rfl
  have fσ4 : Fr [74, 105, 106, 107, 108, 129, 131, 132, 134, 135, 136, 137] [1, 30, 33] σ0 σ4 := by rw [eσ4]; exact Fr_si fσ1 (by decide +kernel) (fun h9 => absurd h9 (by decide +kernel))
  have k_3 : (gi σ4 74 1).toInt = (gi σ1 74 1).toInt := gk_l eσ4 rfl
  have k_4 : (gi σ4 74 33).toInt = (gi σ1 74 33).toInt := gk_l eσ4 rfl
  refine k_X12_goMinutes mσ4 (by omega) (by omega) (by first | with_reducible assumption | with_reducible rfl | omega | assumption | rfl) (fun σ5 mσ5 cσ5 (pσ5_0 : (a3.toInt ≤ 0 ∧ (gi σ5 74 1).toInt = (gi σ4 74 1).toInt) ∨ (0 ≤ a3.toInt ∧ (gi σ5 74 1).toInt = (gi σ4 74 1).toInt + a3.toInt)) => ?_)
  have fσ5 : Fr [74, 105, 106, 107, 108, 129, 131, 132, 134, 135, 136, 137] [1, 30, 33] σ0 σ5 := Fr_tr fσ4 cσ5 (by decide +kernel) (by decide +kernel)
  have k_5 : (gi σ5 74 33).toInt = (gi σ4 74 33).toInt := congrArg Int32.toInt (cσ5.2.1 33 (by decide +kernel))
  refine k_X12_all mσ5  (fun r7 σ6 mσ6 cσ6 plσ6 phσ6 => ?_)
  obtain rfl := Fr_nil cσ6
  refine k_X12_putBack mσ5  (fun σ8 mσ8 cσ8 (pσ8_0 : (gi σ8 74 1).toInt = (gi σ5 74 33).toInt) => ?_)
  have fσ8 : Fr [74, 105, 106, 107, 108, 129, 131, 132, 134, 135, 136, 137] [1, 30, 33] σ0 σ8 := Fr_tr fσ5 cσ8 (by decide +kernel) (by decide +kernel)
  have k_6 : (gi σ8 74 33).toInt = (gi σ5 74 33).toInt := congrArg Int32.toInt (cσ8.2.1 33 (by decide +kernel))
  exact h9ret r7 σ8 mσ8 fσ8 (by first | with_reducible assumption | with_reducible rfl | omega | assumption | rfl)
set_option maxRecDepth 100000 in
set_option maxHeartbeats 4000000 in
theorem k_X12_rest {l : Launch} {V : Vx} {a1 : Int32} {a2 : Int32} {σ0 : Sg} {Qk : Int32 → Sg → Prop} (m0 : MI σ0) (pre0 : (gi σ0 74 1).toInt ≤ 9999) (h9ret : ∀ (r : Int32) (σ' : Sg), MI σ' → Fr [74, 105, 106, 107, 108, 129, 131, 132, 134, 135, 136, 137] [1, 30, 33] σ0 σ' → ((gi σ' 74 1).toInt = (gi σ0 74 1).toInt) → Qk r σ') : K_X12_rest l V a1 a2 σ0 Qk := by
  refine e_X12_rest (fun M hl hV hN C => ?_)
  subst hl
  subst hV
  have T : ∀ n : Nat, (∀ (x1 : Int32) (x2 : Int32) (x3 : Int32) (x4 : Int32) (x5 : Int32) (σ : Sg), MI σ → Fr [74, 105, 106, 107, 108, 129, 131, 132, 134, 135, 136, 137] [1, 30, 33] σ0 σ → (1 ≤ x1.toInt) → (x1.toInt ≤ 60) → (0 ≤ x5.toInt) → (x5.toInt ≤ 6) → ((gi σ 74 1).toInt = (gi σ0 74 1).toInt) → (7 - x5.toInt).toNat < n → PS M 39 [(0, .ref 74), (1, .int x1), (2, .int x2), (3, .int x3), (4, .int x4), (5, .int x5)] [] σ (0, 0)) := by
    intro n
    induction n with
    | zero => exact fun _ _ _ _ _ _ _ _ _ _ _ _ _ h8 => absurd h8 (Nat.not_lt_zero _)
    | succ n ih =>
      have ih39 := ih
      · intro x1 x2 x3 x4 x5 σ mσ fσ lx1 ux1 lx5 ux5 i0 hmu
        refine s_X12_rest_39 C hN ?_
        refine ⟨?_, ?_⟩
        · intro q_1
          have t_2 := MI_f0 mσ
          have b_3 : (gi σ 74 0).toInt ≤ x5.toInt := Int32.le_iff_toInt_le.mp q_1
          refine ⟨?_, ?_⟩
          · intro q_4
            have w_5 := Int32.toInt_lt x4
            have w_6 := Int32.le_toInt x4
            have b_7 : x4.toInt < 0 := Int32.lt_iff_toInt_lt.mp q_4
            exact h9ret x4 σ mσ fσ (by first | with_reducible assumption | with_reducible rfl | omega | assumption | rfl)
          · intro q_4
            have w_8 := Int32.toInt_lt x4
            have w_9 := Int32.le_toInt x4
            have b_10 : ¬ x4.toInt < 0 := fun h9 => q_4 (Int32.lt_iff_toInt_lt.mpr h9)
            refine ⟨?_, ?_⟩
            · intro q_11
              have w_12 := Int32.toInt_lt x2
              have w_13 := Int32.le_toInt x2
              have b_14 : ¬ x2.toInt = 0 := fun h9 => q_11 (Int32.toInt_inj.mp h9)
              exact h9ret x3 σ mσ fσ (by first | with_reducible assumption | with_reducible rfl | omega | assumption | rfl)
            · intro q_11
              have w_15 := Int32.toInt_lt x2
              have w_16 := Int32.le_toInt x2
              have b_17 : x2.toInt = 0 := congrArg Int32.toInt q_11
              exact h9ret x4 σ mσ fσ (by first | with_reducible assumption | with_reducible rfl | omega | assumption | rfl)
        · intro q_1
          have t_18 := MI_f0 mσ
          have b_19 : ¬ (gi σ 74 0).toInt ≤ x5.toInt := fun h9 => q_1 (Int32.le_iff_toInt_le.mpr h9)
          refine k_X12_allStopped mσ (by omega) (by omega) (by omega) (by omega) (by first | with_reducible assumption | with_reducible rfl | omega | assumption | rfl) (fun r5 σ4 mσ4 cσ4 (pσ4_0 : (gi σ4 74 1).toInt = (gi σ 74 1).toInt) => ?_)
          have fσ4 : Fr [74, 105, 106, 107, 108, 129, 131, 132, 134, 135, 136, 137] [1, 30, 33] σ0 σ4 := Fr_tr fσ cσ4 (by decide +kernel) (by decide +kernel)
          have k_20 : (gi σ4 74 0).toInt = (gi σ 74 0).toInt := congrArg Int32.toInt (cσ4.2.1 0 (by decide +kernel))
          refine ⟨?_, ?_⟩
          · intro q_21
            have w_22 := Int32.toInt_lt x3
            have w_23 := Int32.le_toInt x3
            have w_24 := Int32.toInt_lt r5
            have w_25 := Int32.le_toInt r5
            have b_26 : x3.toInt < r5.toInt := Int32.lt_iff_toInt_lt.mp q_21
            intro v7 ev7
            have t_27 : (x5 + (1 : Int32)).toInt = x5.toInt + 1 := i_add (x := x5) (y := (1 : Int32)) (by show (_ : Int) ≤ x5.toInt + 1; omega) (by show x5.toInt + 1 ≤ (_ : Int); omega)
            have t_28 : v7.toInt = (x5 + (1 : Int32)).toInt := congrArg Int32.toInt ev7
            exact ih39 x1 x2 r5 x5 v7 σ4 mσ4 fσ4 (by omega) (by omega) (by omega) (by omega) (by first | with_reducible assumption | with_reducible rfl | omega | assumption | rfl) (by omega)
          · intro q_21
            have w_29 := Int32.toInt_lt x3
            have w_30 := Int32.le_toInt x3
            have w_31 := Int32.toInt_lt r5
            have w_32 := Int32.le_toInt r5
            have b_33 : ¬ x3.toInt < r5.toInt := fun h9 => q_21 (Int32.lt_iff_toInt_lt.mpr h9)
            intro v8 ev8
            have t_34 : (x5 + (1 : Int32)).toInt = x5.toInt + 1 := i_add (x := x5) (y := (1 : Int32)) (by show (_ : Int) ≤ x5.toInt + 1; omega) (by show x5.toInt + 1 ≤ (_ : Int); omega)
            have t_35 : v8.toInt = (x5 + (1 : Int32)).toInt := congrArg Int32.toInt ev8
            exact ih39 x1 x2 x3 x4 v8 σ4 mσ4 fσ4 (by omega) (by omega) (by omega) (by omega) (by first | with_reducible assumption | with_reducible rfl | omega | assumption | rfl) (by omega)
  have U39 := T 20
  have f0 : Fr [74, 105, 106, 107, 108, 129, 131, 132, 134, 135, 136, 137] [1, 30, 33] σ0 σ0 := Fr_rf
  refine s_X12_rest_0 C hN ?_
  refine k_X12_in m0  (fun r2 σ1 mσ1 cσ1 plσ1 phσ1 (pσ1_0 : (r2.toInt = 1 ∧ (0 : Int) ≤ a2.toInt ∧ a2.toInt ≤ (1 : Int)) ∨ (r2.toInt = 0 ∧ (a2.toInt < (0 : Int) ∨ (1 : Int) < a2.toInt))) => ?_)
  obtain rfl := Fr_nil cσ1
  refine ⟨?_, ?_⟩
  · intro q_36
    have b_37 : ¬ r2.toInt = 0 := fun h9 => q_36 (Int32.toInt_inj.mp h9)
    refine k_X12_in m0  (fun r5 σ4 mσ4 cσ4 plσ4 phσ4 (pσ4_0 : (r5.toInt = 1 ∧ (1 : Int) ≤ a1.toInt ∧ a1.toInt ≤ (60 : Int)) ∨ (r5.toInt = 0 ∧ (a1.toInt < (1 : Int) ∨ (60 : Int) < a1.toInt))) => ?_)
    obtain rfl := Fr_nil cσ4
    refine ⟨?_, ?_⟩
    · intro q_38
      have b_39 : ¬ r5.toInt = 0 := fun h9 => q_38 (Int32.toInt_inj.mp h9)
      refine k_X12_allBehind m0 (by omega) (by omega) (by first | with_reducible assumption | with_reducible rfl | omega | assumption | rfl) (fun r8 σ7 mσ7 cσ7 plσ7 phσ7 (pσ7_0 : (gi σ7 74 1).toInt = (gi σ0 74 1).toInt) => ?_)
      have fσ7 : Fr [74, 105, 106, 107, 108, 129, 131, 132, 134, 135, 136, 137] [1, 30, 33] σ0 σ7 := Fr_tr f0 cσ7 (by decide +kernel) (by decide +kernel)
      have z_40 : (-5 : Int32).toInt = -5 := rfl
      have z_41 : (0 : Int32).toInt = 0 := rfl
      exact U39 a1 a2 r8 (-5 : Int32) (0 : Int32) σ7 mσ7 fσ7 (by omega) (by omega) (by omega) (by omega) (by first | with_reducible assumption | with_reducible rfl | omega | assumption | rfl) (by omega)
    · intro q_38
      have b_42 : r5.toInt = 0 := congrArg Int32.toInt q_38
      have z_43 : (-2 : Int32).toInt = -2 := rfl
      exact h9ret (-2 : Int32) σ0 m0 f0 (by first | with_reducible assumption | with_reducible rfl | omega | assumption | rfl)
  · intro q_36
    have b_44 : r2.toInt = 0 := congrArg Int32.toInt q_36
    have z_45 : (-1 : Int32).toInt = -1 := rfl
    exact h9ret (-1 : Int32) σ0 m0 f0 (by first | with_reducible assumption | with_reducible rfl | omega | assumption | rfl)
set_option maxRecDepth 100000 in
set_option maxHeartbeats 4000000 in
theorem k_X12_isSeen {l : Launch} {V : Vx} {a1 : Int32} {a2 : Int32} {σ0 : Sg} {Qk : Int32 → Sg → Prop} (m0 : MI σ0) (l_a1 : 0 ≤ a1.toInt) (u_a1 : a1.toInt ≤ 5) (l_a2 : 0 ≤ a2.toInt) (u_a2 : a2.toInt ≤ 5) (pre0 : (gi σ0 74 1).toInt ≤ 9999) (h9ret : ∀ (r : Int32) (σ' : Sg), MI σ' → Fr [74, 105, 106, 107, 108, 129, 131, 132, 134, 135, 136, 137] [1, 30, 33] σ0 σ' → (0 ≤ r.toInt) → (r.toInt ≤ 1) → ((gi σ' 74 1).toInt = (gi σ0 74 1).toInt) → Qk r σ') : K_X12_isSeen l V a1 a2 σ0 Qk := by
  refine e_X12_isSeen (fun M hl hV hN C => ?_)
  subst hl
  subst hV
  have f0 : Fr [74, 105, 106, 107, 108, 129, 131, 132, 134, 135, 136, 137] [1, 30, 33] σ0 σ0 := Fr_rf
  refine s_X12_isSeen_0 C hN ?_
  refine k_X12_save m0  (fun σ1 mσ1 cσ1 (pσ1_0 : (gi σ1 74 33).toInt = (gi σ0 74 1).toInt) => ?_)
  have fσ1 : Fr [74, 105, 106, 107, 108, 129, 131, 132, 134, 135, 136, 137] [1, 30, 33] σ0 σ1 := Fr_tr f0 cσ1 (by decide +kernel) (by decide +kernel)
  have k_1 : (gi σ1 74 1).toInt = (gi σ0 74 1).toInt := congrArg Int32.toInt (cσ1.2.1 1 (by decide +kernel))
  have hv_2 : vp_in a1 6 := vp_in_iff.mpr ⟨by omega, by omega⟩
  refine ⟨hv_2, ?_⟩
  refine ⟨hv_2, ?_⟩
  intro σ4 eσ4
  have mσ4 : MI σ4 := by rw [eσ4]; exact MIs_au (a := 108) mσ1 rfl rfl
  have fσ4 : Fr [74, 105, 106, 107, 108, 129, 131, 132, 134, 135, 136, 137] [1, 30, 33] σ0 σ4 := by rw [eσ4]; exact Fr_si fσ1 (by decide +kernel) (fun h9 => absurd h9 (by decide +kernel))
  have k_3 : (gi σ4 74 1).toInt = (gi σ1 74 1).toInt := gk_l eσ4 rfl
  have k_4 : (gi σ4 74 33).toInt = (gi σ1 74 33).toInt := gk_l eσ4 rfl
  have hv_5 : vp_in a2 6 := vp_in_iff.mpr ⟨by omega, by omega⟩
  refine ⟨hv_5, ?_⟩
  have t_6 := MI_a143 mσ4 hv_5
  refine k_X12_goMinutes mσ4 (by omega) (by omega) (by first | with_reducible assumption | with_reducible rfl | omega | assumption | rfl) (fun σ6 mσ6 cσ6 (pσ6_0 : ((gi σ4 143 a2.toNatClampNeg).toInt ≤ 0 ∧ (gi σ6 74 1).toInt = (gi σ4 74 1).toInt) ∨ (0 ≤ (gi σ4 143 a2.toNatClampNeg).toInt ∧ (gi σ6 74 1).toInt = (gi σ4 74 1).toInt + (gi σ4 143 a2.toNatClampNeg).toInt)) => ?_)
  have fσ6 : Fr [74, 105, 106, 107, 108, 129, 131, 132, 134, 135, 136, 137] [1, 30, 33] σ0 σ6 := Fr_tr fσ4 cσ6 (by decide +kernel) (by decide +kernel)
  have k_7 : (gi σ6 74 33).toInt = (gi σ4 74 33).toInt := congrArg Int32.toInt (cσ6.2.1 33 (by decide +kernel))
  refine ⟨hv_5, ?_⟩
  have t_8 := MI_a142 mσ6 hv_5
  have hv_9 : vp_in (gi σ6 142 a2.toNatClampNeg) 6 := vp_in_iff.mpr ⟨by omega, by omega⟩
  refine ⟨hv_9, ?_⟩
  refine ⟨hv_5, ?_⟩
  refine ⟨?_, ?_⟩
  · intro q_10
    have t_11 := MI_a105 mσ6 hv_9
    have b_12 : ¬ (gi σ6 105 (gi σ6 142 a2.toNatClampNeg).toNatClampNeg).toInt = (gi σ6 144 a2.toNatClampNeg).toInt := fun h9 => q_10 (Int32.toInt_inj.mp h9)
    refine k_X12_putBack mσ6  (fun σ11 mσ11 cσ11 (pσ11_0 : (gi σ11 74 1).toInt = (gi σ6 74 33).toInt) => ?_)
    have fσ11 : Fr [74, 105, 106, 107, 108, 129, 131, 132, 134, 135, 136, 137] [1, 30, 33] σ0 σ11 := Fr_tr fσ6 cσ11 (by decide +kernel) (by decide +kernel)
    have k_13 : (gi σ11 74 33).toInt = (gi σ6 74 33).toInt := congrArg Int32.toInt (cσ11.2.1 33 (by decide +kernel))
    have z_14 : (0 : Int32).toInt = 0 := rfl
    exact h9ret (0 : Int32) σ11 mσ11 fσ11 (by omega) (by omega) (by first | with_reducible assumption | with_reducible rfl | omega | assumption | rfl)
  · intro q_10
    have t_15 := MI_a105 mσ6 hv_9
    have b_16 : (gi σ6 105 (gi σ6 142 a2.toNatClampNeg).toNatClampNeg).toInt = (gi σ6 144 a2.toNatClampNeg).toInt := congrArg Int32.toInt q_10
    refine k_X12_putBack mσ6  (fun σ12 mσ12 cσ12 (pσ12_0 : (gi σ12 74 1).toInt = (gi σ6 74 33).toInt) => ?_)
    have fσ12 : Fr [74, 105, 106, 107, 108, 129, 131, 132, 134, 135, 136, 137] [1, 30, 33] σ0 σ12 := Fr_tr fσ6 cσ12 (by decide +kernel) (by decide +kernel)
    have k_17 : (gi σ12 74 33).toInt = (gi σ6 74 33).toInt := congrArg Int32.toInt (cσ12.2.1 33 (by decide +kernel))
    have z_18 : (1 : Int32).toInt = 1 := rfl
    exact h9ret (1 : Int32) σ12 mσ12 fσ12 (by omega) (by omega) (by first | with_reducible assumption | with_reducible rfl | omega | assumption | rfl)
set_option maxRecDepth 100000 in
set_option maxHeartbeats 4000000 in
theorem k_X12_whetted {l : Launch} {V : Vx} {a1 : Int32} {a2 : Int32} {σ0 : Sg} {Qk : Int32 → Sg → Prop} (m0 : MI σ0) (l_a1 : 1 ≤ a1.toInt) (u_a1 : a1.toInt ≤ 60) (l_a2 : 1 ≤ a2.toInt) (u_a2 : a2.toInt ≤ 16) (pre0 : (gi σ0 74 1).toInt ≤ 9999) (h9ret : ∀ (r : Int32) (σ' : Sg), MI σ' → Fr [74, 105, 106, 107, 108, 129, 131, 132, 134, 135, 136, 137] [1, 30, 33] σ0 σ' → ((gi σ' 74 1).toInt = (gi σ0 74 1).toInt) → Qk r σ') : K_X12_whetted l V a1 a2 σ0 Qk := by
  refine e_X12_whetted (fun M hl hV hN C => ?_)
  subst hl
  subst hV
  have T : ∀ n : Nat, (∀ (x1 : Int32) (x2 : Int32) (x3 : Int32) (σ : Sg), MI σ → Fr [74, 105, 106, 107, 108, 129, 131, 132, 134, 135, 136, 137] [1, 30, 33] σ0 σ → (1 ≤ x1.toInt) → (x1.toInt ≤ 60) → (1 ≤ x2.toInt) → (x2.toInt ≤ 16) → (1 ≤ x3.toInt) → (x3.toInt ≤ 61) → ((gi σ 74 1).toInt ≤ 9999 + 100 * x3.toInt) → ((gi σ 74 33).toInt = (gi σ0 74 1).toInt) → (62 - x3.toInt).toNat < n → PS M 6 [(0, .ref 74), (1, .int x1), (2, .int x2), (3, .int x3)] [] σ (0, 0)) := by
    intro n
    induction n with
    | zero => exact fun _ _ _ _ _ _ _ _ _ _ _ _ _ _ h8 => absurd h8 (Nat.not_lt_zero _)
    | succ n ih =>
      have ih6 := ih
      · intro x1 x2 x3 σ mσ fσ lx1 ux1 lx2 ux2 lx3 ux3 i0 i1 hmu
        refine s_X12_whetted_6 C hN ?_
        refine ⟨?_, ?_⟩
        · intro q_1
          have b_2 : x1.toInt < x3.toInt := Int32.lt_iff_toInt_lt.mp q_1
          refine k_X12_all mσ  (fun r3 σ2 mσ2 cσ2 plσ2 phσ2 => ?_)
          obtain rfl := Fr_nil cσ2
          refine k_X12_putBack mσ  (fun σ4 mσ4 cσ4 (pσ4_0 : (gi σ4 74 1).toInt = (gi σ 74 33).toInt) => ?_)
          have fσ4 : Fr [74, 105, 106, 107, 108, 129, 131, 132, 134, 135, 136, 137] [1, 30, 33] σ0 σ4 := Fr_tr fσ cσ4 (by decide +kernel) (by decide +kernel)
          have k_3 : (gi σ4 74 33).toInt = (gi σ 74 33).toInt := congrArg Int32.toInt (cσ4.2.1 33 (by decide +kernel))
          exact h9ret r3 σ4 mσ4 fσ4 (by first | with_reducible assumption | with_reducible rfl | omega | assumption | rfl)
        · intro q_1
          have b_4 : ¬ x1.toInt < x3.toInt := fun h9 => q_1 (Int32.lt_iff_toInt_lt.mpr h9)
          refine ⟨?_, ?_⟩
          · intro q_5
            have b_6 : (16 : Int) ≤ x2.toInt := Int32.le_iff_toInt_le.mp q_5
            have z_7 : (1 : Int32).toInt = 1 := rfl
            refine k_X12_goMinutes mσ (by omega) (by omega) (by first | with_reducible assumption | with_reducible rfl | omega | assumption | rfl) (fun σ6 mσ6 cσ6 (pσ6_0 : ((1 : Int) ≤ 0 ∧ (gi σ6 74 1).toInt = (gi σ 74 1).toInt) ∨ (0 ≤ (1 : Int) ∧ (gi σ6 74 1).toInt = (gi σ 74 1).toInt + (1 : Int))) => ?_)
            have fσ6 : Fr [74, 105, 106, 107, 108, 129, 131, 132, 134, 135, 136, 137] [1, 30, 33] σ0 σ6 := Fr_tr fσ cσ6 (by decide +kernel) (by decide +kernel)
            have k_8 : (gi σ6 74 33).toInt = (gi σ 74 33).toInt := congrArg Int32.toInt (cσ6.2.1 33 (by decide +kernel))
            intro v7 ev7
            have t_9 : (x3 + (1 : Int32)).toInt = x3.toInt + 1 := i_add (x := x3) (y := (1 : Int32)) (by show (_ : Int) ≤ x3.toInt + 1; omega) (by show x3.toInt + 1 ≤ (_ : Int); omega)
            have t_10 : v7.toInt = (x3 + (1 : Int32)).toInt := congrArg Int32.toInt ev7
            exact ih6 x1 x2 v7 σ6 mσ6 fσ6 (by omega) (by omega) (by omega) (by omega) (by omega) (by omega) (by first | with_reducible assumption | with_reducible rfl | omega | assumption | rfl) (by first | with_reducible assumption | with_reducible rfl | omega | assumption | rfl) (by omega)
          · intro q_5
            have b_11 : ¬ (16 : Int) ≤ x2.toInt := fun h9 => q_5 (Int32.le_iff_toInt_le.mpr h9)
            refine ⟨fun h9 => ?_, ?_⟩
            · have h9 : x2.toInt = 0 := congrArg Int32.toInt h9
              omega
            refine ⟨?_, ?_⟩
            · intro q_12
              try have t_13 : (x3 - ((x3 / x2) * x2)).toInt = x3.toInt - ((x3 / x2) * x2).toInt := i_sub (x := x3) (y := ((x3 / x2) * x2)) (by show (_ : Int) ≤ x3.toInt - ((x3 / x2) * x2).toInt; omega) (by show x3.toInt - ((x3 / x2) * x2).toInt ≤ (_ : Int); omega)
              have b_14 : ¬ (x3 - ((x3 / x2) * x2)).toInt = 0 := fun h9 => q_12 (Int32.toInt_inj.mp h9)
              have z_15 : (1 : Int32).toInt = 1 := rfl
              refine k_X12_goMinutes mσ (by omega) (by omega) (by first | with_reducible assumption | with_reducible rfl | omega | assumption | rfl) (fun σ10 mσ10 cσ10 (pσ10_0 : ((1 : Int) ≤ 0 ∧ (gi σ10 74 1).toInt = (gi σ 74 1).toInt) ∨ (0 ≤ (1 : Int) ∧ (gi σ10 74 1).toInt = (gi σ 74 1).toInt + (1 : Int))) => ?_)
              have fσ10 : Fr [74, 105, 106, 107, 108, 129, 131, 132, 134, 135, 136, 137] [1, 30, 33] σ0 σ10 := Fr_tr fσ cσ10 (by decide +kernel) (by decide +kernel)
              have k_16 : (gi σ10 74 33).toInt = (gi σ 74 33).toInt := congrArg Int32.toInt (cσ10.2.1 33 (by decide +kernel))
              intro v11 ev11
              have t_17 : (x3 + (1 : Int32)).toInt = x3.toInt + 1 := i_add (x := x3) (y := (1 : Int32)) (by show (_ : Int) ≤ x3.toInt + 1; omega) (by show x3.toInt + 1 ≤ (_ : Int); omega)
              have t_18 : v11.toInt = (x3 + (1 : Int32)).toInt := congrArg Int32.toInt ev11
              exact ih6 x1 x2 v11 σ10 mσ10 fσ10 (by omega) (by omega) (by omega) (by omega) (by omega) (by omega) (by first | with_reducible assumption | with_reducible rfl | omega | assumption | rfl) (by first | with_reducible assumption | with_reducible rfl | omega | assumption | rfl) (by omega)
            · intro q_12
              try have t_19 : (x3 - ((x3 / x2) * x2)).toInt = x3.toInt - ((x3 / x2) * x2).toInt := i_sub (x := x3) (y := ((x3 / x2) * x2)) (by show (_ : Int) ≤ x3.toInt - ((x3 / x2) * x2).toInt; omega) (by show x3.toInt - ((x3 / x2) * x2).toInt ≤ (_ : Int); omega)
              have b_20 : (x3 - ((x3 / x2) * x2)).toInt = 0 := congrArg Int32.toInt q_12
              refine k_X12_goWhet mσ (by first | with_reducible assumption | with_reducible rfl | omega | assumption | rfl) (fun σ12 mσ12 cσ12 (pσ12_0 : (gi σ12 74 1).toInt = (gi σ 74 1).toInt + 1) => ?_)
              have fσ12 : Fr [74, 105, 106, 107, 108, 129, 131, 132, 134, 135, 136, 137] [1, 30, 33] σ0 σ12 := Fr_tr fσ cσ12 (by decide +kernel) (by decide +kernel)
              have k_21 : (gi σ12 74 33).toInt = (gi σ 74 33).toInt := congrArg Int32.toInt (cσ12.2.1 33 (by decide +kernel))
              intro v13 ev13
              have t_22 : (x3 + (1 : Int32)).toInt = x3.toInt + 1 := i_add (x := x3) (y := (1 : Int32)) (by show (_ : Int) ≤ x3.toInt + 1; omega) (by show x3.toInt + 1 ≤ (_ : Int); omega)
              have t_23 : v13.toInt = (x3 + (1 : Int32)).toInt := congrArg Int32.toInt ev13
              exact ih6 x1 x2 v13 σ12 mσ12 fσ12 (by omega) (by omega) (by omega) (by omega) (by omega) (by omega) (by first | with_reducible assumption | with_reducible rfl | omega | assumption | rfl) (by first | with_reducible assumption | with_reducible rfl | omega | assumption | rfl) (by omega)
  have U6 := T 90
  have f0 : Fr [74, 105, 106, 107, 108, 129, 131, 132, 134, 135, 136, 137] [1, 30, 33] σ0 σ0 := Fr_rf
  refine s_X12_whetted_0 C hN ?_
  refine k_X12_save m0  (fun σ1 mσ1 cσ1 (pσ1_0 : (gi σ1 74 33).toInt = (gi σ0 74 1).toInt) => ?_)
  have fσ1 : Fr [74, 105, 106, 107, 108, 129, 131, 132, 134, 135, 136, 137] [1, 30, 33] σ0 σ1 := Fr_tr f0 cσ1 (by decide +kernel) (by decide +kernel)
  have k_24 : (gi σ1 74 1).toInt = (gi σ0 74 1).toInt := congrArg Int32.toInt (cσ1.2.1 1 (by decide +kernel))
  have z_25 : (1 : Int32).toInt = 1 := rfl
  exact U6 a1 a2 (1 : Int32) σ1 mσ1 fσ1 (by omega) (by omega) (by omega) (by omega) (by omega) (by omega) (by first | with_reducible assumption | with_reducible rfl | omega | assumption | rfl) (by first | with_reducible assumption | with_reducible rfl | omega | assumption | rfl) (by omega)
set_option maxRecDepth 100000 in
set_option maxHeartbeats 4000000 in
theorem k_X12_whets {l : Launch} {V : Vx} {a1 : Int32} {a2 : Int32} {σ0 : Sg} {Qk : Int32 → Sg → Prop} (m0 : MI σ0) (pre0 : (gi σ0 74 1).toInt ≤ 9999) (h9ret : ∀ (r : Int32) (σ' : Sg), MI σ' → Fr [74, 105, 106, 107, 108, 129, 131, 132, 134, 135, 136, 137] [1, 30, 33] σ0 σ' → ((gi σ' 74 1).toInt = (gi σ0 74 1).toInt) → Qk r σ') : K_X12_whets l V a1 a2 σ0 Qk := by
  refine e_X12_whets (fun M hl hV hN C => ?_)
  subst hl
  subst hV
  have T : ∀ n : Nat, (∀ (x1 : Int32) (x2 : Int32) (x3 : Int32) (x4 : Int32) (x5 : Int32) (σ : Sg), MI σ → Fr [74, 105, 106, 107, 108, 129, 131, 132, 134, 135, 136, 137] [1, 30, 33] σ0 σ → (1 ≤ x1.toInt) → (x1.toInt ≤ 60) → (1 ≤ x5.toInt) → (x5.toInt ≤ 17) → ((gi σ 74 1).toInt = (gi σ0 74 1).toInt) → (18 - x5.toInt).toNat < n → PS M 34 [(0, .ref 74), (1, .int x1), (2, .int x2), (3, .int x3), (4, .int x4), (5, .int x5)] [] σ (0, 0)) := by
    intro n
    induction n with
    | zero => exact fun _ _ _ _ _ _ _ _ _ _ _ _ _ h8 => absurd h8 (Nat.not_lt_zero _)
    | succ n ih =>
      have ih34 := ih
      · intro x1 x2 x3 x4 x5 σ mσ fσ lx1 ux1 lx5 ux5 i0 hmu
        refine s_X12_whets_34 C hN ?_
        refine ⟨?_, ?_⟩
        · intro q_1
          have b_2 : (17 : Int) ≤ x5.toInt := Int32.le_iff_toInt_le.mp q_1
          refine ⟨?_, ?_⟩
          · intro q_3
            have w_4 := Int32.toInt_lt x2
            have w_5 := Int32.le_toInt x2
            have b_6 : ¬ x2.toInt = 0 := fun h9 => q_3 (Int32.toInt_inj.mp h9)
            exact h9ret x4 σ mσ fσ (by first | with_reducible assumption | with_reducible rfl | omega | assumption | rfl)
          · intro q_3
            have w_7 := Int32.toInt_lt x2
            have w_8 := Int32.le_toInt x2
            have b_9 : x2.toInt = 0 := congrArg Int32.toInt q_3
            exact h9ret x3 σ mσ fσ (by first | with_reducible assumption | with_reducible rfl | omega | assumption | rfl)
        · intro q_1
          have b_10 : ¬ (17 : Int) ≤ x5.toInt := fun h9 => q_1 (Int32.le_iff_toInt_le.mpr h9)
          refine k_X12_whetted mσ (by omega) (by omega) (by omega) (by omega) (by first | with_reducible assumption | with_reducible rfl | omega | assumption | rfl) (fun r4 σ3 mσ3 cσ3 (pσ3_0 : (gi σ3 74 1).toInt = (gi σ 74 1).toInt) => ?_)
          have fσ3 : Fr [74, 105, 106, 107, 108, 129, 131, 132, 134, 135, 136, 137] [1, 30, 33] σ0 σ3 := Fr_tr fσ cσ3 (by decide +kernel) (by decide +kernel)
          refine ⟨?_, ?_⟩
          · intro q_11
            have w_12 := Int32.toInt_lt x4
            have w_13 := Int32.le_toInt x4
            have w_14 := Int32.toInt_lt r4
            have w_15 := Int32.le_toInt r4
            have b_16 : x4.toInt < r4.toInt := Int32.lt_iff_toInt_lt.mp q_11
            intro v6 ev6
            have t_17 : (x5 + (1 : Int32)).toInt = x5.toInt + 1 := i_add (x := x5) (y := (1 : Int32)) (by show (_ : Int) ≤ x5.toInt + 1; omega) (by show x5.toInt + 1 ≤ (_ : Int); omega)
            have t_18 : v6.toInt = (x5 + (1 : Int32)).toInt := congrArg Int32.toInt ev6
            exact ih34 x1 x2 x5 r4 v6 σ3 mσ3 fσ3 (by omega) (by omega) (by omega) (by omega) (by first | with_reducible assumption | with_reducible rfl | omega | assumption | rfl) (by omega)
          · intro q_11
            have w_19 := Int32.toInt_lt x4
            have w_20 := Int32.le_toInt x4
            have w_21 := Int32.toInt_lt r4
            have w_22 := Int32.le_toInt r4
            have b_23 : ¬ x4.toInt < r4.toInt := fun h9 => q_11 (Int32.lt_iff_toInt_lt.mpr h9)
            intro v7 ev7
            have t_24 : (x5 + (1 : Int32)).toInt = x5.toInt + 1 := i_add (x := x5) (y := (1 : Int32)) (by show (_ : Int) ≤ x5.toInt + 1; omega) (by show x5.toInt + 1 ≤ (_ : Int); omega)
            have t_25 : v7.toInt = (x5 + (1 : Int32)).toInt := congrArg Int32.toInt ev7
            exact ih34 x1 x2 x3 x4 v7 σ3 mσ3 fσ3 (by omega) (by omega) (by omega) (by omega) (by first | with_reducible assumption | with_reducible rfl | omega | assumption | rfl) (by omega)
  have U34 := T 20
  have f0 : Fr [74, 105, 106, 107, 108, 129, 131, 132, 134, 135, 136, 137] [1, 30, 33] σ0 σ0 := Fr_rf
  refine s_X12_whets_0 C hN ?_
  refine k_X12_in m0  (fun r2 σ1 mσ1 cσ1 plσ1 phσ1 (pσ1_0 : (r2.toInt = 1 ∧ (0 : Int) ≤ a2.toInt ∧ a2.toInt ≤ (1 : Int)) ∨ (r2.toInt = 0 ∧ (a2.toInt < (0 : Int) ∨ (1 : Int) < a2.toInt))) => ?_)
  obtain rfl := Fr_nil cσ1
  refine ⟨?_, ?_⟩
  · intro q_26
    have b_27 : ¬ r2.toInt = 0 := fun h9 => q_26 (Int32.toInt_inj.mp h9)
    refine k_X12_in m0  (fun r5 σ4 mσ4 cσ4 plσ4 phσ4 (pσ4_0 : (r5.toInt = 1 ∧ (1 : Int) ≤ a1.toInt ∧ a1.toInt ≤ (60 : Int)) ∨ (r5.toInt = 0 ∧ (a1.toInt < (1 : Int) ∨ (60 : Int) < a1.toInt))) => ?_)
    obtain rfl := Fr_nil cσ4
    refine ⟨?_, ?_⟩
    · intro q_28
      have b_29 : ¬ r5.toInt = 0 := fun h9 => q_28 (Int32.toInt_inj.mp h9)
      have z_30 : (0 : Int32).toInt = 0 := rfl
      have z_31 : (-1 : Int32).toInt = -1 := rfl
      have z_32 : (1 : Int32).toInt = 1 := rfl
      exact U34 a1 a2 (0 : Int32) (-1 : Int32) (1 : Int32) σ0 m0 f0 (by omega) (by omega) (by omega) (by omega) (by first | with_reducible assumption | with_reducible rfl | omega | assumption | rfl) (by omega)
    · intro q_28
      have b_33 : r5.toInt = 0 := congrArg Int32.toInt q_28
      have z_34 : (-2 : Int32).toInt = -2 := rfl
      exact h9ret (-2 : Int32) σ0 m0 f0 (by first | with_reducible assumption | with_reducible rfl | omega | assumption | rfl)
  · intro q_26
    have b_35 : r2.toInt = 0 := congrArg Int32.toInt q_26
    have z_36 : (-1 : Int32).toInt = -1 := rfl
    exact h9ret (-1 : Int32) σ0 m0 f0 (by first | with_reducible assumption | with_reducible rfl | omega | assumption | rfl)
set_option maxRecDepth 100000 in
set_option maxHeartbeats 4000000 in
theorem k_X12_on {l : Launch} {V : Vx} {a1 : Int32} {a2 : Int32} {σ0 : Sg} {Qk : Int32 → Sg → Prop} (m0 : MI σ0) (pre0 : (gi σ0 74 1).toInt ≤ 9999) (h9ret : ∀ (r : Int32) (σ' : Sg), MI σ' → Fr [74, 105, 106, 107, 108, 129, 131, 132, 134, 135, 136, 137] [1, 30, 33] σ0 σ' → ((gi σ' 74 1).toInt = (gi σ0 74 1).toInt) → Qk r σ') : K_X12_on l V a1 a2 σ0 Qk := by
  refine e_X12_on (fun M hl hV hN C => ?_)
  subst hl
  subst hV
  have T : ∀ n : Nat, (∀ (x1 : Int32) (x2 : Int32) (σ : Sg), MI σ → Fr [74, 105, 106, 107, 108, 129, 131, 132, 134, 135, 136, 137] [1, 30, 33] σ0 σ → (0 ≤ x2.toInt) → (x2.toInt ≤ 40) → (x2.toInt = 0 ∨ (10 ≤ x2.toInt ∧ x2.toInt ≤ 9 + (gi σ0 74 0).toInt) ∨ (20 ≤ x2.toInt ∧ x2.toInt ≤ 19 + (gi σ0 74 0).toInt)) → ((gi σ 74 1).toInt = (gi σ0 74 1).toInt) → ((gi σ 74 0).toInt = (gi σ0 74 0).toInt) → 1 < n → PS M 40 [(0, .ref 74), (1, .int x1), (2, .int x2)] [] σ (0, 0)) := by
    intro n
    induction n with
    | zero => exact fun _ _ _ _ _ _ _ _ _ _ h8 => absurd h8 (Nat.not_lt_zero _)
    | succ n ih =>
      have ih40 := ih
      · intro x1 x2 σ mσ fσ lx2 ux2 i0 i1 i2 hmu
        have mw := MI_f0 m0
        refine s_X12_on_40 C hN ?_
        refine k_X12_in mσ  (fun r2 σ1 mσ1 cσ1 plσ1 phσ1 (pσ1_0 : (r2.toInt = 1 ∧ (0 : Int) ≤ x1.toInt ∧ x1.toInt ≤ (60 : Int)) ∨ (r2.toInt = 0 ∧ (x1.toInt < (0 : Int) ∨ (60 : Int) < x1.toInt))) => ?_)
        obtain rfl := Fr_nil cσ1
        refine ⟨?_, ?_⟩
        · intro q_1
          have b_2 : ¬ r2.toInt = 0 := fun h9 => q_1 (Int32.toInt_inj.mp h9)
          refine k_X12_save mσ  (fun σ4 mσ4 cσ4 (pσ4_0 : (gi σ4 74 33).toInt = (gi σ 74 1).toInt) => ?_)
          have fσ4 : Fr [74, 105, 106, 107, 108, 129, 131, 132, 134, 135, 136, 137] [1, 30, 33] σ0 σ4 := Fr_tr fσ cσ4 (by decide +kernel) (by decide +kernel)
          have k_3 : (gi σ4 74 0).toInt = (gi σ 74 0).toInt := congrArg Int32.toInt (cσ4.2.1 0 (by decide +kernel))
          have k_4 : (gi σ4 74 1).toInt = (gi σ 74 1).toInt := congrArg Int32.toInt (cσ4.2.1 1 (by decide +kernel))
          refine k_X12_goMinutes mσ4 (by omega) (by omega) (by first | with_reducible assumption | with_reducible rfl | omega | assumption | rfl) (fun σ5 mσ5 cσ5 (pσ5_0 : (x1.toInt ≤ 0 ∧ (gi σ5 74 1).toInt = (gi σ4 74 1).toInt) ∨ (0 ≤ x1.toInt ∧ (gi σ5 74 1).toInt = (gi σ4 74 1).toInt + x1.toInt)) => ?_)
          have fσ5 : Fr [74, 105, 106, 107, 108, 129, 131, 132, 134, 135, 136, 137] [1, 30, 33] σ0 σ5 := Fr_tr fσ4 cσ5 (by decide +kernel) (by decide +kernel)
          have k_5 : (gi σ5 74 0).toInt = (gi σ4 74 0).toInt := congrArg Int32.toInt (cσ5.2.1 0 (by decide +kernel))
          have k_6 : (gi σ5 74 33).toInt = (gi σ4 74 33).toInt := congrArg Int32.toInt (cσ5.2.1 33 (by decide +kernel))
          refine ⟨?_, ?_⟩
          · intro q_7
            have b_8 : ¬ x2.toInt = 0 := fun h9 => q_7 (Int32.toInt_inj.mp h9)
            refine ⟨?_, ?_⟩
            · intro q_9
              have b_10 : (20 : Int) ≤ x2.toInt := Int32.le_iff_toInt_le.mp q_9
              have t_11 : (x2 - (20 : Int32)).toInt = x2.toInt - 20 := i_sub (x := x2) (y := (20 : Int32)) (by show (_ : Int) ≤ x2.toInt - 20; omega) (by show x2.toInt - 20 ≤ (_ : Int); omega)
              have hv_12 : vp_in (x2 - (20 : Int32)) 6 := vp_in_iff.mpr ⟨by omega, by omega⟩
              refine ⟨hv_12, ?_⟩
              intro v9 ev9
              refine k_X12_putBack mσ5  (fun σ10 mσ10 cσ10 (pσ10_0 : (gi σ10 74 1).toInt = (gi σ5 74 33).toInt) => ?_)
              have fσ10 : Fr [74, 105, 106, 107, 108, 129, 131, 132, 134, 135, 136, 137] [1, 30, 33] σ0 σ10 := Fr_tr fσ5 cσ10 (by decide +kernel) (by decide +kernel)
              have k_13 : (gi σ10 74 0).toInt = (gi σ5 74 0).toInt := congrArg Int32.toInt (cσ10.2.1 0 (by decide +kernel))
              have k_14 : (gi σ10 74 33).toInt = (gi σ5 74 33).toInt := congrArg Int32.toInt (cσ10.2.1 33 (by decide +kernel))
              exact h9ret v9 σ10 mσ10 fσ10 (by first | with_reducible assumption | with_reducible rfl | omega | assumption | rfl)
            · intro q_9
              have b_15 : ¬ (20 : Int) ≤ x2.toInt := fun h9 => q_9 (Int32.le_iff_toInt_le.mpr h9)
              have t_16 : (x2 - (10 : Int32)).toInt = x2.toInt - 10 := i_sub (x := x2) (y := (10 : Int32)) (by show (_ : Int) ≤ x2.toInt - 10; omega) (by show x2.toInt - 10 ≤ (_ : Int); omega)
              have hv_17 : vp_in (x2 - (10 : Int32)) 6 := vp_in_iff.mpr ⟨by omega, by omega⟩
              refine ⟨hv_17, ?_⟩
              intro v12 ev12
              have t_18 := MI_a105 mσ5 hv_17
              have t_19 : v12.toInt = (gi σ5 105 (x2 - (10 : Int32)).toNatClampNeg).toInt := congrArg Int32.toInt ev12
              refine k_X12_putBack mσ5  (fun σ13 mσ13 cσ13 (pσ13_0 : (gi σ13 74 1).toInt = (gi σ5 74 33).toInt) => ?_)
              have fσ13 : Fr [74, 105, 106, 107, 108, 129, 131, 132, 134, 135, 136, 137] [1, 30, 33] σ0 σ13 := Fr_tr fσ5 cσ13 (by decide +kernel) (by decide +kernel)
              have k_20 : (gi σ13 74 0).toInt = (gi σ5 74 0).toInt := congrArg Int32.toInt (cσ13.2.1 0 (by decide +kernel))
              have k_21 : (gi σ13 74 33).toInt = (gi σ5 74 33).toInt := congrArg Int32.toInt (cσ13.2.1 33 (by decide +kernel))
              exact h9ret v12 σ13 mσ13 fσ13 (by first | with_reducible assumption | with_reducible rfl | omega | assumption | rfl)
          · intro q_7
            have b_22 : x2.toInt = 0 := congrArg Int32.toInt q_7
            refine k_X12_all mσ5  (fun r15 σ14 mσ14 cσ14 plσ14 phσ14 => ?_)
            obtain rfl := Fr_nil cσ14
            refine k_X12_putBack mσ5  (fun σ16 mσ16 cσ16 (pσ16_0 : (gi σ16 74 1).toInt = (gi σ5 74 33).toInt) => ?_)
            have fσ16 : Fr [74, 105, 106, 107, 108, 129, 131, 132, 134, 135, 136, 137] [1, 30, 33] σ0 σ16 := Fr_tr fσ5 cσ16 (by decide +kernel) (by decide +kernel)
            have k_23 : (gi σ16 74 0).toInt = (gi σ5 74 0).toInt := congrArg Int32.toInt (cσ16.2.1 0 (by decide +kernel))
            have k_24 : (gi σ16 74 33).toInt = (gi σ5 74 33).toInt := congrArg Int32.toInt (cσ16.2.1 33 (by decide +kernel))
            exact h9ret r15 σ16 mσ16 fσ16 (by first | with_reducible assumption | with_reducible rfl | omega | assumption | rfl)
        · intro q_1
          have b_25 : r2.toInt = 0 := congrArg Int32.toInt q_1
          have z_26 : (-2 : Int32).toInt = -2 := rfl
          exact h9ret (-2 : Int32) σ mσ fσ (by first | with_reducible assumption | with_reducible rfl | omega | assumption | rfl)
  have U40 := T 9
  have f0 : Fr [74, 105, 106, 107, 108, 129, 131, 132, 134, 135, 136, 137] [1, 30, 33] σ0 σ0 := Fr_rf
  refine s_X12_on_0 C hN ?_
  refine ⟨?_, ?_⟩
  · intro q_27
    have w_28 := Int32.toInt_lt a2
    have w_29 := Int32.le_toInt a2
    have b_30 : a2.toInt = 0 := congrArg Int32.toInt q_27
    exact U40 a1 a2 σ0 m0 f0 (by omega) (by omega) (by first | with_reducible assumption | with_reducible rfl | omega | assumption | rfl) (by first | with_reducible assumption | with_reducible rfl | omega | assumption | rfl) (by first | with_reducible assumption | with_reducible rfl | omega | assumption | rfl) (by omega)
  · intro q_27
    have w_31 := Int32.toInt_lt a2
    have w_32 := Int32.le_toInt a2
    have b_33 : ¬ a2.toInt = 0 := fun h9 => q_27 (Int32.toInt_inj.mp h9)
    have t_34 := MI_f0 m0
    have t_35 : ((9 : Int32) + (gi σ0 74 0)).toInt = 9 + (gi σ0 74 0).toInt := i_add (x := (9 : Int32)) (y := (gi σ0 74 0)) (by show (_ : Int) ≤ 9 + (gi σ0 74 0).toInt; omega) (by show 9 + (gi σ0 74 0).toInt ≤ (_ : Int); omega)
    refine k_X12_in m0  (fun r3 σ2 mσ2 cσ2 plσ2 phσ2 (pσ2_0 : (r3.toInt = 1 ∧ (10 : Int) ≤ a2.toInt ∧ a2.toInt ≤ ((9 : Int32) + (gi σ0 74 0)).toInt) ∨ (r3.toInt = 0 ∧ (a2.toInt < (10 : Int) ∨ ((9 : Int32) + (gi σ0 74 0)).toInt < a2.toInt))) => ?_)
    obtain rfl := Fr_nil cσ2
    refine ⟨?_, ?_⟩
    · intro q_36
      have b_37 : ¬ r3.toInt = 0 := fun h9 => q_36 (Int32.toInt_inj.mp h9)
      exact U40 a1 a2 σ0 m0 f0 (by omega) (by omega) (by first | with_reducible assumption | with_reducible rfl | omega | assumption | rfl) (by first | with_reducible assumption | with_reducible rfl | omega | assumption | rfl) (by first | with_reducible assumption | with_reducible rfl | omega | assumption | rfl) (by omega)
    · intro q_36
      have b_38 : r3.toInt = 0 := congrArg Int32.toInt q_36
      have t_39 : ((19 : Int32) + (gi σ0 74 0)).toInt = 19 + (gi σ0 74 0).toInt := i_add (x := (19 : Int32)) (y := (gi σ0 74 0)) (by show (_ : Int) ≤ 19 + (gi σ0 74 0).toInt; omega) (by show 19 + (gi σ0 74 0).toInt ≤ (_ : Int); omega)
      refine k_X12_in m0  (fun r6 σ5 mσ5 cσ5 plσ5 phσ5 (pσ5_0 : (r6.toInt = 1 ∧ (20 : Int) ≤ a2.toInt ∧ a2.toInt ≤ ((19 : Int32) + (gi σ0 74 0)).toInt) ∨ (r6.toInt = 0 ∧ (a2.toInt < (20 : Int) ∨ ((19 : Int32) + (gi σ0 74 0)).toInt < a2.toInt))) => ?_)
      obtain rfl := Fr_nil cσ5
      refine ⟨?_, ?_⟩
      · intro q_40
        have b_41 : ¬ r6.toInt = 0 := fun h9 => q_40 (Int32.toInt_inj.mp h9)
        exact U40 a1 a2 σ0 m0 f0 (by omega) (by omega) (by first | with_reducible assumption | with_reducible rfl | omega | assumption | rfl) (by first | with_reducible assumption | with_reducible rfl | omega | assumption | rfl) (by first | with_reducible assumption | with_reducible rfl | omega | assumption | rfl) (by omega)
      · intro q_40
        have b_42 : r6.toInt = 0 := congrArg Int32.toInt q_40
        have z_43 : (-1 : Int32).toInt = -1 := rfl
        exact h9ret (-1 : Int32) σ0 m0 f0 (by first | with_reducible assumption | with_reducible rfl | omega | assumption | rfl)
set_option maxRecDepth 100000 in
set_option maxHeartbeats 4000000 in
theorem k_X12_done {l : Launch} {V : Vx} {σ0 : Sg} {Qk : Int32 → Sg → Prop} (m0 : MI σ0) (pre0 : (gi σ0 74 1).toInt ≤ 9999) (h9ret : ∀ (r : Int32) (σ' : Sg), MI σ' → Fr [74, 105, 106, 107, 108, 129, 131, 132, 134, 135, 136, 137] [1, 30, 33] σ0 σ' → ((gi σ' 74 1).toInt = (gi σ0 74 1).toInt) → Qk r σ') : K_X12_done l V σ0 Qk := by
  refine e_X12_done (fun M hl hV hN C => ?_)
  subst hl
  subst hV
  have T : ∀ n : Nat, (∀ (x1 : Int32) (σ : Sg), MI σ → Fr [74, 105, 106, 107, 108, 129, 131, 132, 134, 135, 136, 137] [1, 30, 33] σ0 σ → (0 ≤ x1.toInt) → (x1.toInt ≤ 121) → ((gi σ 74 1).toInt ≤ 9999 + x1.toInt) → ((gi σ 74 33).toInt = (gi σ0 74 1).toInt) → (122 - x1.toInt).toNat + 5 < n → PS M 6 [(0, .ref 74), (1, .int x1)] [] σ (0, 0)) ∧ (∀ (x1 : Int32) (σ : Sg), MI σ → Fr [74, 105, 106, 107, 108, 129, 131, 132, 134, 135, 136, 137] [1, 30, 33] σ0 σ → (0 ≤ x1.toInt) → (x1.toInt ≤ 121) → ((gi σ 74 33).toInt = (gi σ0 74 1).toInt) → 1 < n → PS M 30 [(0, .ref 74), (1, .int x1)] [] σ (0, 0)) := by
    intro n
    induction n with
    | zero => exact ⟨fun _ _ _ _ _ _ _ _ h8 => absurd h8 (Nat.not_lt_zero _), fun _ _ _ _ _ _ _ h8 => absurd h8 (Nat.not_lt_zero _)⟩
    | succ n ih =>
      obtain ⟨ih6, ih30⟩ := ih
      refine ⟨?_, ?_⟩
      · intro x1 σ mσ fσ lx1 ux1 i0 i1 hmu
        refine s_X12_done_6 C hN ?_
        refine ⟨?_, ?_⟩
        · intro q_1
          have b_2 : (120 : Int) < x1.toInt := Int32.lt_iff_toInt_lt.mp q_1
          exact ih30 x1 σ mσ fσ (by omega) (by omega) (by first | with_reducible assumption | with_reducible rfl | omega | assumption | rfl) (by omega)
        · intro q_1
          have b_3 : ¬ (120 : Int) < x1.toInt := fun h9 => q_1 (Int32.lt_iff_toInt_lt.mpr h9)
          refine k_X12_isDone mσ  (fun r3 σ2 mσ2 cσ2 plσ2 phσ2 => ?_)
          obtain rfl := Fr_nil cσ2
          refine ⟨?_, ?_⟩
          · intro q_4
            have b_5 : ¬ r3.toInt = 0 := fun h9 => q_4 (Int32.toInt_inj.mp h9)
            exact ih30 x1 σ mσ fσ (by omega) (by omega) (by first | with_reducible assumption | with_reducible rfl | omega | assumption | rfl) (by omega)
          · intro q_4
            have b_6 : r3.toInt = 0 := congrArg Int32.toInt q_4
            have z_7 : (1 : Int32).toInt = 1 := rfl
            refine k_X12_goMinutes mσ (by omega) (by omega) (by first | with_reducible assumption | with_reducible rfl | omega | assumption | rfl) (fun σ5 mσ5 cσ5 (pσ5_0 : ((1 : Int) ≤ 0 ∧ (gi σ5 74 1).toInt = (gi σ 74 1).toInt) ∨ (0 ≤ (1 : Int) ∧ (gi σ5 74 1).toInt = (gi σ 74 1).toInt + (1 : Int))) => ?_)
            have fσ5 : Fr [74, 105, 106, 107, 108, 129, 131, 132, 134, 135, 136, 137] [1, 30, 33] σ0 σ5 := Fr_tr fσ cσ5 (by decide +kernel) (by decide +kernel)
            have k_8 : (gi σ5 74 33).toInt = (gi σ 74 33).toInt := congrArg Int32.toInt (cσ5.2.1 33 (by decide +kernel))
            intro v6 ev6
            have t_9 : (x1 + (1 : Int32)).toInt = x1.toInt + 1 := i_add (x := x1) (y := (1 : Int32)) (by show (_ : Int) ≤ x1.toInt + 1; omega) (by show x1.toInt + 1 ≤ (_ : Int); omega)
            have t_10 : v6.toInt = (x1 + (1 : Int32)).toInt := congrArg Int32.toInt ev6
            exact ih6 v6 σ5 mσ5 fσ5 (by omega) (by omega) (by first | with_reducible assumption | with_reducible rfl | omega | assumption | rfl) (by first | with_reducible assumption | with_reducible rfl | omega | assumption | rfl) (by omega)
      · intro x1 σ mσ fσ lx1 ux1 i0 hmu
        refine s_X12_done_30 C hN ?_
        refine k_X12_putBack mσ  (fun σ1 mσ1 cσ1 (pσ1_0 : (gi σ1 74 1).toInt = (gi σ 74 33).toInt) => ?_)
        have fσ1 : Fr [74, 105, 106, 107, 108, 129, 131, 132, 134, 135, 136, 137] [1, 30, 33] σ0 σ1 := Fr_tr fσ cσ1 (by decide +kernel) (by decide +kernel)
        have k_11 : (gi σ1 74 33).toInt = (gi σ 74 33).toInt := congrArg Int32.toInt (cσ1.2.1 33 (by decide +kernel))
        refine ⟨?_, ?_⟩
        · intro q_12
          have b_13 : (120 : Int) < x1.toInt := Int32.lt_iff_toInt_lt.mp q_12
          have z_14 : (-5 : Int32).toInt = -5 := rfl
          exact h9ret (-5 : Int32) σ1 mσ1 fσ1 (by first | with_reducible assumption | with_reducible rfl | omega | assumption | rfl)
        · intro q_12
          have b_15 : ¬ (120 : Int) < x1.toInt := fun h9 => q_12 (Int32.lt_iff_toInt_lt.mpr h9)
          exact h9ret x1 σ1 mσ1 fσ1 (by first | with_reducible assumption | with_reducible rfl | omega | assumption | rfl)
  obtain ⟨U6, U30⟩ := T 400
  have f0 : Fr [74, 105, 106, 107, 108, 129, 131, 132, 134, 135, 136, 137] [1, 30, 33] σ0 σ0 := Fr_rf
  refine s_X12_done_0 C hN ?_
  refine k_X12_save m0  (fun σ1 mσ1 cσ1 (pσ1_0 : (gi σ1 74 33).toInt = (gi σ0 74 1).toInt) => ?_)
  have fσ1 : Fr [74, 105, 106, 107, 108, 129, 131, 132, 134, 135, 136, 137] [1, 30, 33] σ0 σ1 := Fr_tr f0 cσ1 (by decide +kernel) (by decide +kernel)
  have k_16 : (gi σ1 74 1).toInt = (gi σ0 74 1).toInt := congrArg Int32.toInt (cσ1.2.1 1 (by decide +kernel))
  have z_17 : (0 : Int32).toInt = 0 := rfl
  exact U6 (0 : Int32) σ1 mσ1 fσ1 (by omega) (by omega) (by first | with_reducible assumption | with_reducible rfl | omega | assumption | rfl) (by first | with_reducible assumption | with_reducible rfl | omega | assumption | rfl) (by omega)
