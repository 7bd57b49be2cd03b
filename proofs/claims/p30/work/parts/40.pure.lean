/-! numbers -/
noncomputable def hid (P : Prop) : Prop := P
theorem un {P : Prop} (h : hid P) : P := h
theorem bm_eq {z : Int} (h1 : -2147483648 ≤ z) (h2 : z ≤ 2147483647) : z.bmod (2 ^ 32) = z := by
  show (if z % 4294967296 < (4294967296 + 1) / 2 then z % 4294967296 else z % 4294967296 - 4294967296) = z
  split <;> omega
theorem i_add {x y : Int32} (h1 : -2147483648 ≤ x.toInt + y.toInt) (h2 : x.toInt + y.toInt ≤ 2147483647) : (x + y).toInt = x.toInt + y.toInt := by
  rw [Int32.toInt_add]
  exact bm_eq h1 h2
theorem i_sub {x y : Int32} (h1 : -2147483648 ≤ x.toInt - y.toInt) (h2 : x.toInt - y.toInt ≤ 2147483647) : (x - y).toInt = x.toInt - y.toInt := by
  rw [Int32.toInt_sub]
  exact bm_eq h1 h2
theorem i_neg {x : Int32} (h1 : -2147483648 < x.toInt) : (-x).toInt = -x.toInt := by
  have h2 := Int32.toInt_lt x
  rw [Int32.toInt_neg]
  exact bm_eq (by omega) (by omega)
theorem i_mul0 {x y : Int32} {z : Int} (e : x.toInt * y.toInt = z) (h1 : -2147483648 ≤ z) (h2 : z ≤ 2147483647) : (x * y).toInt = z := by
  rw [Int32.toInt_mul, e]
  exact bm_eq h1 h2
theorem i_mull {c : Int32} {y : Int32} {k : Int} (hk : c.toInt = k) (h1 : -2147483648 ≤ k * y.toInt) (h2 : k * y.toInt ≤ 2147483647) : (c * y).toInt = k * y.toInt := i_mul0 (by rw [hk]) h1 h2
theorem i_mulr {c : Int32} {y : Int32} {k : Int} (hk : c.toInt = k) (h1 : -2147483648 ≤ y.toInt * k) (h2 : y.toInt * k ≤ 2147483647) : (y * c).toInt = y.toInt * k := i_mul0 (by rw [hk]) h1 h2
theorem i_div {x c : Int32} {k : Int} (h0 : 0 ≤ x.toInt) (hk0 : 0 < k) (hk : c.toInt = k) : (x / c).toInt = x.toInt / k := by
  have h2 := Int32.toInt_lt x
  rw [Int32.toInt_div, hk, Int.tdiv_eq_ediv_of_nonneg h0]
  have h3 : x.toInt / k ≤ x.toInt := Int.ediv_le_self _ h0
  have h4 : 0 ≤ x.toInt / k := Int.ediv_nonneg h0 (by omega)
  exact bm_eq (by omega) (by omega)
theorem i_rem {x c : Int32} {k : Int} (h0 : 0 ≤ x.toInt) (hk0 : 0 < k) (hk : c.toInt = k) : (x - x / c * c).toInt = x.toInt % k := by
  have h2 := Int32.toInt_lt x
  have hd := i_div h0 hk0 hk
  have h3 : x.toInt / k * k ≤ x.toInt := Int.ediv_mul_le _ (by omega)
  have h4 : 0 ≤ x.toInt / k := Int.ediv_nonneg h0 (by omega)
  have h5 : 0 ≤ x.toInt / k * k := Int.mul_nonneg h4 (by omega)
  have hm : (x / c * c).toInt = x.toInt / k * k := i_mul0 (by rw [hd, hk]) (by omega) (by omega)
  rw [i_sub (by omega) (by omega), hm]
  have := Int.emod_add_mul_ediv x.toInt k
  have e : k * (x.toInt / k) = x.toInt / k * k := Int.mul_comm _ _
  omega
theorem i_bool {x : Int32} (h1 : 0 ≤ x.toInt) (h2 : x.toInt ≤ 1) : narrow .boolean (.int x) = .int x := by
  have h : x = 0 ∨ x = 1 := by
    rcases (show x.toInt = 0 ∨ x.toInt = 1 by omega) with h | h
    · exact Or.inl (Int32.toInt_inj.mp h)
    · exact Or.inr (Int32.toInt_inj.mp h)
  rcases h with rfl | rfl <;> decide
theorem vp_lt {i : Int32} {n : Nat} (h : vp_in i n) : i.toNatClampNeg < n := Nat.not_le.mp fun q => h (Or.inr q)
theorem nar_z (x : Int32) : 0 ≤ (vp_nar .boolean x).toInt ∧ (vp_nar .boolean x).toInt ≤ 1 := by
  have h : vp_nar .boolean x = 0 ∨ vp_nar .boolean x = 1 := by
    have e : vp_nar .boolean x = x &&& 1 := rfl
    rw [e]
    obtain ⟨j, hj, h⟩ := pk_andE x (m := 1) 1 rfl
    rw [h]
    rcases (show j = 0 ∨ j = 1 by omega) with rfl | rfl
    · exact Or.inl rfl
    · exact Or.inr rfl
  rcases h with h | h <;> rw [h] <;> decide
/-! what is left alone -/
theorem gi_si_eq {σ : Sg} {a k : Nat} {v : Int32} : gi (si σ a k v) a k = v := by simp [gi, si, sia, va_up, upd]
theorem gi_si_ne {σ : Sg} {a k b j : Nat} {v : Int32} (h : b ≠ a ∨ j ≠ k) : gi (si σ a k v) b j = gi σ b j := by
  rcases h with h | h
  · simp [gi, si, sia, va_up, h]
  · by_cases hb : b = a
    · subst hb; simp [gi, si, sia, va_up, upd, h]
    · simp [gi, si, sia, va_up, hb]
theorem gk_l {σ σ' : Sg} {a k b j : Nat} {v : Int32} (e : σ' = si σ b j v) (h : Nat.beq a b = false) : (gi σ' a k).toInt = (gi σ a k).toInt := by rw [e]; exact congrArg Int32.toInt (gi_si_ne (Or.inl (Nat.ne_of_beq_eq_false h)))
theorem gk_r {σ σ' : Sg} {a k b j : Nat} {v : Int32} (e : σ' = si σ b j v) (h : Nat.beq k j = false) : (gi σ' a k).toInt = (gi σ a k).toInt := by rw [e]; exact congrArg Int32.toInt (gi_si_ne (Or.inr (Nat.ne_of_beq_eq_false h)))
theorem gi_si {σ : Sg} {a k b j : Nat} {v : Int32} : gi (si σ a k v) b j = if b = a ∧ j = k then v else gi σ b j := by
  by_cases e : b = a ∧ j = k
  · rw [if_pos e]; obtain ⟨rfl, rfl⟩ := e; exact gi_si_eq
  · rw [if_neg e]
    refine gi_si_ne ?_
    by_cases hb : b = a
    · exact Or.inr (fun hj => e ⟨hb, hj⟩)
    · exact Or.inl hb
noncomputable def Fr (S F : List Nat) (σ σ' : Sg) : Prop := (∀ id, id ∉ S → σ'.1 id = σ.1 id ∧ σ'.2.1 id = σ.2.1 id) ∧ (∀ k, k ∉ F → gi σ' 74 k = gi σ 74 k) ∧ σ'.2.2 = σ.2.2
theorem Fr_rf {S F : List Nat} {σ : Sg} : Fr S F σ σ := ⟨fun _ _ => ⟨rfl, rfl⟩, fun _ _ => rfl, rfl⟩
theorem Fr_si {S F : List Nat} {σ σ1 : Sg} {a k : Nat} {v : Int32} (h : Fr S F σ σ1) (ha : a ∈ S) (hk : a = 74 → k ∈ F) : Fr S F σ (si σ1 a k v) := by
  refine ⟨fun id hid => ?_, fun j hj => ?_, h.2.2⟩
  · have hne : id ≠ a := fun e => hid (e ▸ ha)
    have h1 := h.1 id hid
    exact ⟨(va_up_ne _ _ hne).trans h1.1, h1.2⟩
  · rw [← h.2.1 j hj]
    by_cases e : 74 = a
    · subst e
      have hjk : j ≠ k := fun e => hj (e ▸ hk rfl)
      exact gi_si_ne (Or.inr hjk)
    · exact gi_si_ne (Or.inl e)
theorem Fr_sl {S F : List Nat} {σ σ1 : Sg} {a k : Nat} {v : Int64} (h : Fr S F σ σ1) (ha : a ∈ S) : Fr S F σ (sl σ1 a k v) := by
  refine ⟨fun id hid => ?_, h.2.1, h.2.2⟩
  have hne : id ≠ a := fun e => hid (e ▸ ha)
  have h1 := h.1 id hid
  exact ⟨h1.1, (va_up_ne _ _ hne).trans h1.2⟩
theorem Fr_tr {S F S2 F2 : List Nat} {σ σ1 σ2 : Sg} (h : Fr S F σ σ1) (h2 : Fr S2 F2 σ1 σ2) (hS : ∀ x ∈ S2, x ∈ S) (hF : ∀ x ∈ F2, x ∈ F) : Fr S F σ σ2 := by
  refine ⟨fun id hid => ?_, fun j hj => ?_, h2.2.2.trans h.2.2⟩
  · have h1 := h.1 id hid
    have h3 := h2.1 id (fun q => hid (hS id q))
    exact ⟨h3.1.trans h1.1, h3.2.trans h1.2⟩
  · exact (h2.2.1 j (fun q => hj (hF j q))).trans (h.2.1 j hj)
theorem Fr_nil {σ σ' : Sg} (h : Fr [] [] σ σ') : σ = σ' := by
  obtain ⟨h1, -, h3⟩ := h
  refine Prod.ext (funext fun id => ((h1 id (by simp)).1).symm) (Prod.ext (funext fun id => ((h1 id (by simp)).2).symm) h3.symm)
/-! the model's bounds -/
noncomputable def bnd (f : Nat → Int32) (n : Nat) (lo hi : Int) : Prop := ∀ j, j < n → lo ≤ (f j).toInt ∧ (f j).toInt ≤ hi
noncomputable def MI0 (σ : Sg) : Prop := ((0 : Int) ≤ (gi σ 74 0).toInt ∧ (gi σ 74 0).toInt ≤ 6) ∧ ((0 : Int) ≤ (gi σ 74 1).toInt ∧ (gi σ 74 1).toInt ≤ 20000) ∧ ((0 : Int) ≤ (gi σ 74 2).toInt ∧ (gi σ 74 2).toInt ≤ 6) ∧ ((0 : Int) ≤ (gi σ 74 11).toInt ∧ (gi σ 74 11).toInt ≤ 6) ∧ ((-1 : Int) ≤ (gi σ 74 12).toInt ∧ (gi σ 74 12).toInt ≤ 5) ∧ ((0 : Int) ≤ (gi σ 74 13).toInt ∧ (gi σ 74 13).toInt ≤ 100) ∧ ((0 : Int) ≤ (gi σ 74 14).toInt ∧ (gi σ 74 14).toInt ≤ 100) ∧ ((0 : Int) ≤ (gi σ 74 15).toInt ∧ (gi σ 74 15).toInt ≤ 99) ∧ ((0 : Int) ≤ (gi σ 74 24).toInt ∧ (gi σ 74 24).toInt ≤ 600) ∧ ((0 : Int) ≤ (gi σ 74 25).toInt ∧ (gi σ 74 25).toInt ≤ 101) ∧ ((-100 : Int) ≤ (gi σ 74 30).toInt ∧ (gi σ 74 30).toInt ≤ 100) ∧ ((0 : Int) ≤ (gi σ 74 33).toInt ∧ (gi σ 74 33).toInt ≤ 20000) ∧ ((0 : Int) ≤ (gi σ 74 41).toInt ∧ (gi σ 74 41).toInt ≤ 6) ∧ ((0 : Int) ≤ (gi σ 74 45).toInt ∧ (gi σ 74 45).toInt ≤ 10) ∧ ((0 : Int) ≤ (gi σ 74 46).toInt ∧ (gi σ 74 46).toInt ≤ 8) ∧ ((-1 : Int) ≤ (gi σ 74 50).toInt ∧ (gi σ 74 50).toInt ≤ 5) ∧ ((0 : Int) ≤ (gi σ 74 51).toInt ∧ (gi σ 74 51).toInt ≤ 6) ∧ ((0 : Int) ≤ (gi σ 74 52).toInt ∧ (gi σ 74 52).toInt ≤ 20000) ∧ ((0 : Int) ≤ (gi σ 74 53).toInt ∧ (gi σ 74 53).toInt ≤ 6) ∧ ((0 : Int) ≤ (gi σ 74 54).toInt ∧ (gi σ 74 54).toInt ≤ 10) ∧ ((0 : Int) ≤ (gi σ 74 55).toInt ∧ (gi σ 74 55).toInt ≤ 8) ∧ ((0 : Int) ≤ (gi σ 74 69).toInt ∧ (gi σ 74 69).toInt ≤ 1000)
noncomputable def MI1 (σ : Sg) : Prop := bnd (σ.1 105) 6 (0) 9999 ∧ bnd (σ.1 110) 6 (0) 5 ∧ bnd (σ.1 116) 100 (0) 127 ∧ bnd (σ.1 117) 6 (0) 10 ∧ bnd (σ.1 127) 19 (0) 127 ∧ bnd (σ.1 129) 100 (0) 1 ∧ bnd (σ.1 134) 6 (0) 9999 ∧ bnd (σ.1 138) 6 (0) 5 ∧ bnd (σ.1 139) 6 (0) 5 ∧ bnd (σ.1 142) 6 (0) 5 ∧ bnd (σ.1 143) 6 (0) 30 ∧ bnd (σ.1 158) 6 (0) 9999 ∧ bnd (σ.1 162) 6 (0) 5 ∧ bnd (σ.1 164) 6 (0) 5 ∧ bnd (σ.1 165) 6 (0) 30 ∧ bnd (σ.1 171) 6 (-1) 4 ∧ bnd (σ.1 172) 6 (0) 60
/-- a clause's signs: how high the pile stands ahead of each, never too low -/
noncomputable def okSeg (σ : Sg) (lo hi : Nat) : Prop := ∃ H : Nat → Nat, H lo = 0 ∧ ∀ k, lo ≤ k → k < hi → (gi σ 122 k = -33 → 1 ≤ H k ∧ H (k + 1) = H k) ∧ (¬ gi σ 122 k = -33 → (gi σ 122 k).toInt < 0 → 2 ≤ H k ∧ H (k + 1) + 1 = H k) ∧ (0 ≤ (gi σ 122 k).toInt → H k ≤ 99 ∧ H (k + 1) = H k + 1)
noncomputable def okCl (σ : Sg) (f c : Nat) : Prop := ∃ lo hi : Nat, (gi σ 120 c).toInt = lo ∧ (gi σ 121 c).toInt = hi ∧ 100 * f ≤ lo ∧ lo ≤ hi ∧ hi ≤ 100 * f + 100 ∧ okSeg σ lo hi
noncomputable def okF (σ : Sg) (f : Nat) : Prop := ∀ n : Nat, n < 10 → (n : Int) < (gi σ 117 f).toInt → (gi σ 118 (10 * f + n)).toInt ≤ 1 → okCl σ f (10 * f + n)
/-- every field that may come to hold is one -/
noncomputable def FV (σ : Sg) : Prop := ∀ f : Nat, f < 6 → ((f : Int) < (gi σ 74 11).toInt ∨ (f : Int) = (gi σ 74 12).toInt ∨ (f : Int) = (gi σ 74 50).toInt) → okF σ f
theorem okF_si {σ : Sg} {a k : Nat} {v : Int32} {f : Nat} (ha : a = 74) (h : okF σ f) : okF (si σ a k v) f := by
  subst ha
  intro n hn hcl hw
  rw [gi_si_ne (Or.inl (by decide +kernel))] at hcl
  rw [gi_si_ne (Or.inl (by decide +kernel))] at hw
  obtain ⟨lo, hi, e1, e2, e3, e4, e5, H, h0, hk⟩ := h n hn hcl hw
  exact ⟨lo, hi, by rw [gi_si_ne (Or.inl (by decide +kernel))]; exact e1, by rw [gi_si_ne (Or.inl (by decide +kernel))]; exact e2, e3, e4, e5, H, h0, fun k h1 h2 => by rw [gi_si_ne (Or.inl (by decide +kernel))]; exact hk k h1 h2⟩
theorem FV_copy {σ : Sg} (h : FV σ) {k : Nat} {v : Int32} (hk : k = 12 ∨ k = 50) (hv : v = gi σ 74 12 ∨ v = gi σ 74 50) : FV (si σ 74 k v) := by
  intro f hf hc
  refine okF_si rfl (h f hf ?_)
  rw [gi_si_ne (Or.inr (by omega))] at hc
  rcases hc with hc | hc | hc
  · exact Or.inl hc
  · rw [gi_si] at hc
    split at hc
    · rcases hv with hv | hv <;> rw [hv] at hc
      · exact Or.inr (Or.inl hc)
      · exact Or.inr (Or.inr hc)
    · exact Or.inr (Or.inl hc)
  · rw [gi_si] at hc
    split at hc
    · rcases hv with hv | hv <;> rw [hv] at hc
      · exact Or.inr (Or.inl hc)
      · exact Or.inr (Or.inr hc)
    · exact Or.inr (Or.inr hc)
noncomputable def fvL : List Nat := [117, 118, 120, 121, 122]
theorem okSeg_eq {σ σ' : Sg} {lo hi : Nat} (h : ∀ k, lo ≤ k → k < hi → gi σ' 122 k = gi σ 122 k) (q : okSeg σ lo hi) : okSeg σ' lo hi := by
  obtain ⟨H, h0, hk⟩ := q
  exact ⟨H, h0, fun k h1 h2 => by rw [h k h1 h2]; exact hk k h1 h2⟩
theorem FV_eq {σ σ' : Sg} (h : ∀ a ∈ fvL, ∀ k, gi σ' a k = gi σ a k) (h1 : gi σ' 74 11 = gi σ 74 11) (h2 : gi σ' 74 12 = gi σ 74 12) (h3 : gi σ' 74 50 = gi σ 74 50) (q : FV σ) : FV σ' := by
  intro f hf hc
  rw [h1, h2, h3] at hc
  intro n hn hcl hw
  rw [h 117 (by decide +kernel)] at hcl
  rw [h 118 (by decide +kernel)] at hw
  obtain ⟨lo, hi, e1, e2, e3, e4, e5, e6⟩ := q f hf hc n hn hcl hw
  exact ⟨lo, hi, by rw [h 120 (by decide +kernel)]; exact e1, by rw [h 121 (by decide +kernel)]; exact e2, e3, e4, e5, okSeg_eq (fun k _ _ => h 122 (by decide +kernel) k) e6⟩
theorem FV_si {σ : Sg} {a k : Nat} {v : Int32} (ha : fvL.contains a = false) (hk : a = 74 → k ≠ 11 ∧ k ≠ 12 ∧ k ≠ 50) (q : FV σ) : FV (si σ a k v) := by
  refine FV_eq (fun b hb j => gi_si_ne (Or.inl fun e => ?_)) ?_ ?_ ?_ q
  · subst e
    rw [List.contains_iff_mem.mpr hb] at ha
    cases ha
  all_goals
    by_cases e : a = 74
    · have := hk e
      exact gi_si_ne (Or.inr (by omega))
    · exact gi_si_ne (Or.inl fun q => e q.symm)

noncomputable def MI (σ : Sg) : Prop := MI0 σ ∧ MI1 σ ∧ FV σ
noncomputable def mfL : List Nat := [0, 1, 2, 11, 12, 13, 14, 15, 24, 25, 30, 33, 41, 45, 46, 50, 51, 52, 53, 54, 55, 69]
noncomputable def maL : List Nat := [105, 110, 116, 117, 127, 129, 134, 138, 139, 142, 143, 158, 162, 164, 165, 171, 172]
theorem MI_f0 {σ : Sg} (h : MI σ) : 0 ≤ (gi σ 74 0).toInt ∧ (gi σ 74 0).toInt ≤ 6 := h.1.1
theorem MI_f1 {σ : Sg} (h : MI σ) : 0 ≤ (gi σ 74 1).toInt ∧ (gi σ 74 1).toInt ≤ 20000 := h.1.2.1
theorem MI_f2 {σ : Sg} (h : MI σ) : 0 ≤ (gi σ 74 2).toInt ∧ (gi σ 74 2).toInt ≤ 6 := h.1.2.2.1
theorem MI_f11 {σ : Sg} (h : MI σ) : 0 ≤ (gi σ 74 11).toInt ∧ (gi σ 74 11).toInt ≤ 6 := h.1.2.2.2.1
theorem MI_f12 {σ : Sg} (h : MI σ) : -1 ≤ (gi σ 74 12).toInt ∧ (gi σ 74 12).toInt ≤ 5 := h.1.2.2.2.2.1
theorem MI_f13 {σ : Sg} (h : MI σ) : 0 ≤ (gi σ 74 13).toInt ∧ (gi σ 74 13).toInt ≤ 100 := h.1.2.2.2.2.2.1
theorem MI_f14 {σ : Sg} (h : MI σ) : 0 ≤ (gi σ 74 14).toInt ∧ (gi σ 74 14).toInt ≤ 100 := h.1.2.2.2.2.2.2.1
theorem MI_f15 {σ : Sg} (h : MI σ) : 0 ≤ (gi σ 74 15).toInt ∧ (gi σ 74 15).toInt ≤ 99 := h.1.2.2.2.2.2.2.2.1
theorem MI_f24 {σ : Sg} (h : MI σ) : 0 ≤ (gi σ 74 24).toInt ∧ (gi σ 74 24).toInt ≤ 600 := h.1.2.2.2.2.2.2.2.2.1
theorem MI_f25 {σ : Sg} (h : MI σ) : 0 ≤ (gi σ 74 25).toInt ∧ (gi σ 74 25).toInt ≤ 101 := h.1.2.2.2.2.2.2.2.2.2.1
theorem MI_f33 {σ : Sg} (h : MI σ) : 0 ≤ (gi σ 74 33).toInt ∧ (gi σ 74 33).toInt ≤ 20000 := h.1.2.2.2.2.2.2.2.2.2.2.2.1
theorem MI_f41 {σ : Sg} (h : MI σ) : 0 ≤ (gi σ 74 41).toInt ∧ (gi σ 74 41).toInt ≤ 6 := h.1.2.2.2.2.2.2.2.2.2.2.2.2.1
theorem MI_f45 {σ : Sg} (h : MI σ) : 0 ≤ (gi σ 74 45).toInt ∧ (gi σ 74 45).toInt ≤ 10 := h.1.2.2.2.2.2.2.2.2.2.2.2.2.2.1
theorem MI_f46 {σ : Sg} (h : MI σ) : 0 ≤ (gi σ 74 46).toInt ∧ (gi σ 74 46).toInt ≤ 8 := h.1.2.2.2.2.2.2.2.2.2.2.2.2.2.2.1
theorem MI_f50 {σ : Sg} (h : MI σ) : -1 ≤ (gi σ 74 50).toInt ∧ (gi σ 74 50).toInt ≤ 5 := h.1.2.2.2.2.2.2.2.2.2.2.2.2.2.2.2.1
theorem MI_f51 {σ : Sg} (h : MI σ) : 0 ≤ (gi σ 74 51).toInt ∧ (gi σ 74 51).toInt ≤ 6 := h.1.2.2.2.2.2.2.2.2.2.2.2.2.2.2.2.2.1
theorem MI_f52 {σ : Sg} (h : MI σ) : 0 ≤ (gi σ 74 52).toInt ∧ (gi σ 74 52).toInt ≤ 20000 := h.1.2.2.2.2.2.2.2.2.2.2.2.2.2.2.2.2.2.1
theorem MI_f53 {σ : Sg} (h : MI σ) : 0 ≤ (gi σ 74 53).toInt ∧ (gi σ 74 53).toInt ≤ 6 := h.1.2.2.2.2.2.2.2.2.2.2.2.2.2.2.2.2.2.2.1
theorem MI_f54 {σ : Sg} (h : MI σ) : 0 ≤ (gi σ 74 54).toInt ∧ (gi σ 74 54).toInt ≤ 10 := h.1.2.2.2.2.2.2.2.2.2.2.2.2.2.2.2.2.2.2.2.1
theorem MI_f55 {σ : Sg} (h : MI σ) : 0 ≤ (gi σ 74 55).toInt ∧ (gi σ 74 55).toInt ≤ 8 := h.1.2.2.2.2.2.2.2.2.2.2.2.2.2.2.2.2.2.2.2.2.1
theorem MI_f69 {σ : Sg} (h : MI σ) : 0 ≤ (gi σ 74 69).toInt ∧ (gi σ 74 69).toInt ≤ 1000 := h.1.2.2.2.2.2.2.2.2.2.2.2.2.2.2.2.2.2.2.2.2.2
theorem MI_a105 {σ : Sg} (h : MI σ) {i : Int32} (hi : vp_in i 6) : 0 ≤ (gi σ 105 i.toNatClampNeg).toInt ∧ (gi σ 105 i.toNatClampNeg).toInt ≤ 9999 := h.2.1.1 _ (vp_lt hi)
theorem MI_a110 {σ : Sg} (h : MI σ) {i : Int32} (hi : vp_in i 6) : 0 ≤ (gi σ 110 i.toNatClampNeg).toInt ∧ (gi σ 110 i.toNatClampNeg).toInt ≤ 5 := h.2.1.2.1 _ (vp_lt hi)
theorem MI_a116 {σ : Sg} (h : MI σ) {i : Int32} (hi : vp_in i 100) : 0 ≤ (gi σ 116 i.toNatClampNeg).toInt ∧ (gi σ 116 i.toNatClampNeg).toInt ≤ 127 := h.2.1.2.2.1 _ (vp_lt hi)
theorem MI_a117 {σ : Sg} (h : MI σ) {i : Int32} (hi : vp_in i 6) : 0 ≤ (gi σ 117 i.toNatClampNeg).toInt ∧ (gi σ 117 i.toNatClampNeg).toInt ≤ 10 := h.2.1.2.2.2.1 _ (vp_lt hi)
theorem MI_a127 {σ : Sg} (h : MI σ) {i : Int32} (hi : vp_in i 19) : 0 ≤ (gi σ 127 i.toNatClampNeg).toInt ∧ (gi σ 127 i.toNatClampNeg).toInt ≤ 127 := h.2.1.2.2.2.2.1 _ (vp_lt hi)
theorem MI_a129 {σ : Sg} (h : MI σ) {i : Int32} (hi : vp_in i 100) : 0 ≤ (gi σ 129 i.toNatClampNeg).toInt ∧ (gi σ 129 i.toNatClampNeg).toInt ≤ 1 := h.2.1.2.2.2.2.2.1 _ (vp_lt hi)
theorem MI_a134 {σ : Sg} (h : MI σ) {i : Int32} (hi : vp_in i 6) : 0 ≤ (gi σ 134 i.toNatClampNeg).toInt ∧ (gi σ 134 i.toNatClampNeg).toInt ≤ 9999 := h.2.1.2.2.2.2.2.2.1 _ (vp_lt hi)
theorem MI_a138 {σ : Sg} (h : MI σ) {i : Int32} (hi : vp_in i 6) : 0 ≤ (gi σ 138 i.toNatClampNeg).toInt ∧ (gi σ 138 i.toNatClampNeg).toInt ≤ 5 := h.2.1.2.2.2.2.2.2.2.1 _ (vp_lt hi)
theorem MI_a139 {σ : Sg} (h : MI σ) {i : Int32} (hi : vp_in i 6) : 0 ≤ (gi σ 139 i.toNatClampNeg).toInt ∧ (gi σ 139 i.toNatClampNeg).toInt ≤ 5 := h.2.1.2.2.2.2.2.2.2.2.1 _ (vp_lt hi)
theorem MI_a142 {σ : Sg} (h : MI σ) {i : Int32} (hi : vp_in i 6) : 0 ≤ (gi σ 142 i.toNatClampNeg).toInt ∧ (gi σ 142 i.toNatClampNeg).toInt ≤ 5 := h.2.1.2.2.2.2.2.2.2.2.2.1 _ (vp_lt hi)
theorem MI_a143 {σ : Sg} (h : MI σ) {i : Int32} (hi : vp_in i 6) : 0 ≤ (gi σ 143 i.toNatClampNeg).toInt ∧ (gi σ 143 i.toNatClampNeg).toInt ≤ 30 := h.2.1.2.2.2.2.2.2.2.2.2.2.1 _ (vp_lt hi)
theorem MI_a158 {σ : Sg} (h : MI σ) {i : Int32} (hi : vp_in i 6) : 0 ≤ (gi σ 158 i.toNatClampNeg).toInt ∧ (gi σ 158 i.toNatClampNeg).toInt ≤ 9999 := h.2.1.2.2.2.2.2.2.2.2.2.2.2.1 _ (vp_lt hi)
theorem MI_a162 {σ : Sg} (h : MI σ) {i : Int32} (hi : vp_in i 6) : 0 ≤ (gi σ 162 i.toNatClampNeg).toInt ∧ (gi σ 162 i.toNatClampNeg).toInt ≤ 5 := h.2.1.2.2.2.2.2.2.2.2.2.2.2.2.1 _ (vp_lt hi)
theorem MI_a164 {σ : Sg} (h : MI σ) {i : Int32} (hi : vp_in i 6) : 0 ≤ (gi σ 164 i.toNatClampNeg).toInt ∧ (gi σ 164 i.toNatClampNeg).toInt ≤ 5 := h.2.1.2.2.2.2.2.2.2.2.2.2.2.2.2.1 _ (vp_lt hi)
theorem MI_a165 {σ : Sg} (h : MI σ) {i : Int32} (hi : vp_in i 6) : 0 ≤ (gi σ 165 i.toNatClampNeg).toInt ∧ (gi σ 165 i.toNatClampNeg).toInt ≤ 30 := h.2.1.2.2.2.2.2.2.2.2.2.2.2.2.2.2.1 _ (vp_lt hi)
theorem MI_a171 {σ : Sg} (h : MI σ) {i : Int32} (hi : vp_in i 6) : -1 ≤ (gi σ 171 i.toNatClampNeg).toInt ∧ (gi σ 171 i.toNatClampNeg).toInt ≤ 4 := h.2.1.2.2.2.2.2.2.2.2.2.2.2.2.2.2.2.1 _ (vp_lt hi)
theorem MI_a172 {σ : Sg} (h : MI σ) {i : Int32} (hi : vp_in i 6) : 0 ≤ (gi σ 172 i.toNatClampNeg).toInt ∧ (gi σ 172 i.toNatClampNeg).toInt ≤ 60 := h.2.1.2.2.2.2.2.2.2.2.2.2.2.2.2.2.2.2 _ (vp_lt hi)
theorem MI1_f {σ : Sg} (h : MI1 σ) {k : Nat} {v : Int32} : MI1 (si σ 74 k v) := h
theorem bnd_up {f : Nat → Int32} {n k : Nat} {lo hi : Int} {v : Int32} (h : bnd f n lo hi) (h1 : lo ≤ v.toInt) (h2 : v.toInt ≤ hi) : bnd (upd f k v) n lo hi := by
  intro j hj
  unfold upd
  split
  · exact ⟨h1, h2⟩
  · exact h j hj
theorem MIs_f0 {σ : Sg} (h : MI σ) {v : Int32} (h1 : 0 ≤ v.toInt) (h2 : v.toInt ≤ 6) : MI (si σ 74 0 v) := ⟨⟨(by rw [gi_si_eq]; exact ⟨h1, h2⟩), (by rw [gi_si_ne (Or.inr (by decide +kernel))]; exact h.1.2.1), (by rw [gi_si_ne (Or.inr (by decide +kernel))]; exact h.1.2.2.1), (by rw [gi_si_ne (Or.inr (by decide +kernel))]; exact h.1.2.2.2.1), (by rw [gi_si_ne (Or.inr (by decide +kernel))]; exact h.1.2.2.2.2.1), (by rw [gi_si_ne (Or.inr (by decide +kernel))]; exact h.1.2.2.2.2.2.1), (by rw [gi_si_ne (Or.inr (by decide +kernel))]; exact h.1.2.2.2.2.2.2.1), (by rw [gi_si_ne (Or.inr (by decide +kernel))]; exact h.1.2.2.2.2.2.2.2.1), (by rw [gi_si_ne (Or.inr (by decide +kernel))]; exact h.1.2.2.2.2.2.2.2.2.1), (by rw [gi_si_ne (Or.inr (by decide +kernel))]; exact h.1.2.2.2.2.2.2.2.2.2.1), (by rw [gi_si_ne (Or.inr (by decide +kernel))]; exact h.1.2.2.2.2.2.2.2.2.2.2.1), (by rw [gi_si_ne (Or.inr (by decide +kernel))]; exact h.1.2.2.2.2.2.2.2.2.2.2.2.1), (by rw [gi_si_ne (Or.inr (by decide +kernel))]; exact h.1.2.2.2.2.2.2.2.2.2.2.2.2.1), (by rw [gi_si_ne (Or.inr (by decide +kernel))]; exact h.1.2.2.2.2.2.2.2.2.2.2.2.2.2.1), (by rw [gi_si_ne (Or.inr (by decide +kernel))]; exact h.1.2.2.2.2.2.2.2.2.2.2.2.2.2.2.1), (by rw [gi_si_ne (Or.inr (by decide +kernel))]; exact h.1.2.2.2.2.2.2.2.2.2.2.2.2.2.2.2.1), (by rw [gi_si_ne (Or.inr (by decide +kernel))]; exact h.1.2.2.2.2.2.2.2.2.2.2.2.2.2.2.2.2.1), (by rw [gi_si_ne (Or.inr (by decide +kernel))]; exact h.1.2.2.2.2.2.2.2.2.2.2.2.2.2.2.2.2.2.1), (by rw [gi_si_ne (Or.inr (by decide +kernel))]; exact h.1.2.2.2.2.2.2.2.2.2.2.2.2.2.2.2.2.2.2.1), (by rw [gi_si_ne (Or.inr (by decide +kernel))]; exact h.1.2.2.2.2.2.2.2.2.2.2.2.2.2.2.2.2.2.2.2.1), (by rw [gi_si_ne (Or.inr (by decide +kernel))]; exact h.1.2.2.2.2.2.2.2.2.2.2.2.2.2.2.2.2.2.2.2.2.1), (by rw [gi_si_ne (Or.inr (by decide +kernel))]; exact h.1.2.2.2.2.2.2.2.2.2.2.2.2.2.2.2.2.2.2.2.2.2)⟩, MI1_f h.2.1, FV_si rfl (fun _ => by decide +kernel) h.2.2⟩
theorem MIs_f1 {σ : Sg} (h : MI σ) {v : Int32} (h1 : 0 ≤ v.toInt) (h2 : v.toInt ≤ 20000) : MI (si σ 74 1 v) := ⟨⟨(by rw [gi_si_ne (Or.inr (by decide +kernel))]; exact h.1.1), (by rw [gi_si_eq]; exact ⟨h1, h2⟩), (by rw [gi_si_ne (Or.inr (by decide +kernel))]; exact h.1.2.2.1), (by rw [gi_si_ne (Or.inr (by decide +kernel))]; exact h.1.2.2.2.1), (by rw [gi_si_ne (Or.inr (by decide +kernel))]; exact h.1.2.2.2.2.1), (by rw [gi_si_ne (Or.inr (by decide +kernel))]; exact h.1.2.2.2.2.2.1), (by rw [gi_si_ne (Or.inr (by decide +kernel))]; exact h.1.2.2.2.2.2.2.1), (by rw [gi_si_ne (Or.inr (by decide +kernel))]; exact h.1.2.2.2.2.2.2.2.1), (by rw [gi_si_ne (Or.inr (by decide +kernel))]; exact h.1.2.2.2.2.2.2.2.2.1), (by rw [gi_si_ne (Or.inr (by decide +kernel))]; exact h.1.2.2.2.2.2.2.2.2.2.1), (by rw [gi_si_ne (Or.inr (by decide +kernel))]; exact h.1.2.2.2.2.2.2.2.2.2.2.1), (by rw [gi_si_ne (Or.inr (by decide +kernel))]; exact h.1.2.2.2.2.2.2.2.2.2.2.2.1), (by rw [gi_si_ne (Or.inr (by decide +kernel))]; exact h.1.2.2.2.2.2.2.2.2.2.2.2.2.1), (by rw [gi_si_ne (Or.inr (by decide +kernel))]; exact h.1.2.2.2.2.2.2.2.2.2.2.2.2.2.1), (by rw [gi_si_ne (Or.inr (by decide +kernel))]; exact h.1.2.2.2.2.2.2.2.2.2.2.2.2.2.2.1), (by rw [gi_si_ne (Or.inr (by decide +kernel))]; exact h.1.2.2.2.2.2.2.2.2.2.2.2.2.2.2.2.1), (by rw [gi_si_ne (Or.inr (by decide +kernel))]; exact h.1.2.2.2.2.2.2.2.2.2.2.2.2.2.2.2.2.1), (by rw [gi_si_ne (Or.inr (by decide +kernel))]; exact h.1.2.2.2.2.2.2.2.2.2.2.2.2.2.2.2.2.2.1), (by rw [gi_si_ne (Or.inr (by decide +kernel))]; exact h.1.2.2.2.2.2.2.2.2.2.2.2.2.2.2.2.2.2.2.1), (by rw [gi_si_ne (Or.inr (by decide +kernel))]; exact h.1.2.2.2.2.2.2.2.2.2.2.2.2.2.2.2.2.2.2.2.1), (by rw [gi_si_ne (Or.inr (by decide +kernel))]; exact h.1.2.2.2.2.2.2.2.2.2.2.2.2.2.2.2.2.2.2.2.2.1), (by rw [gi_si_ne (Or.inr (by decide +kernel))]; exact h.1.2.2.2.2.2.2.2.2.2.2.2.2.2.2.2.2.2.2.2.2.2)⟩, MI1_f h.2.1, FV_si rfl (fun _ => by decide +kernel) h.2.2⟩
theorem MIs_f2 {σ : Sg} (h : MI σ) {v : Int32} (h1 : 0 ≤ v.toInt) (h2 : v.toInt ≤ 6) : MI (si σ 74 2 v) := ⟨⟨(by rw [gi_si_ne (Or.inr (by decide +kernel))]; exact h.1.1), (by rw [gi_si_ne (Or.inr (by decide +kernel))]; exact h.1.2.1), (by rw [gi_si_eq]; exact ⟨h1, h2⟩), (by rw [gi_si_ne (Or.inr (by decide +kernel))]; exact h.1.2.2.2.1), (by rw [gi_si_ne (Or.inr (by decide +kernel))]; exact h.1.2.2.2.2.1), (by rw [gi_si_ne (Or.inr (by decide +kernel))]; exact h.1.2.2.2.2.2.1), (by rw [gi_si_ne (Or.inr (by decide +kernel))]; exact h.1.2.2.2.2.2.2.1), (by rw [gi_si_ne (Or.inr (by decide +kernel))]; exact h.1.2.2.2.2.2.2.2.1), (by rw [gi_si_ne (Or.inr (by decide +kernel))]; exact h.1.2.2.2.2.2.2.2.2.1), (by rw [gi_si_ne (Or.inr (by decide +kernel))]; exact h.1.2.2.2.2.2.2.2.2.2.1), (by rw [gi_si_ne (Or.inr (by decide +kernel))]; exact h.1.2.2.2.2.2.2.2.2.2.2.1), (by rw [gi_si_ne (Or.inr (by decide +kernel))]; exact h.1.2.2.2.2.2.2.2.2.2.2.2.1), (by rw [gi_si_ne (Or.inr (by decide +kernel))]; exact h.1.2.2.2.2.2.2.2.2.2.2.2.2.1), (by rw [gi_si_ne (Or.inr (by decide +kernel))]; exact h.1.2.2.2.2.2.2.2.2.2.2.2.2.2.1), (by rw [gi_si_ne (Or.inr (by decide +kernel))]; exact h.1.2.2.2.2.2.2.2.2.2.2.2.2.2.2.1), (by rw [gi_si_ne (Or.inr (by decide +kernel))]; exact h.1.2.2.2.2.2.2.2.2.2.2.2.2.2.2.2.1), (by rw [gi_si_ne (Or.inr (by decide +kernel))]; exact h.1.2.2.2.2.2.2.2.2.2.2.2.2.2.2.2.2.1), (by rw [gi_si_ne (Or.inr (by decide +kernel))]; exact h.1.2.2.2.2.2.2.2.2.2.2.2.2.2.2.2.2.2.1), (by rw [gi_si_ne (Or.inr (by decide +kernel))]; exact h.1.2.2.2.2.2.2.2.2.2.2.2.2.2.2.2.2.2.2.1), (by rw [gi_si_ne (Or.inr (by decide +kernel))]; exact h.1.2.2.2.2.2.2.2.2.2.2.2.2.2.2.2.2.2.2.2.1), (by rw [gi_si_ne (Or.inr (by decide +kernel))]; exact h.1.2.2.2.2.2.2.2.2.2.2.2.2.2.2.2.2.2.2.2.2.1), (by rw [gi_si_ne (Or.inr (by decide +kernel))]; exact h.1.2.2.2.2.2.2.2.2.2.2.2.2.2.2.2.2.2.2.2.2.2)⟩, MI1_f h.2.1, FV_si rfl (fun _ => by decide +kernel) h.2.2⟩
theorem MIs_f11 {σ : Sg} (h : MI σ) {v : Int32} (h1 : 0 ≤ v.toInt) (h2 : v.toInt ≤ 6) (hF : FV (si σ 74 11 v)) : MI (si σ 74 11 v) := ⟨⟨(by rw [gi_si_ne (Or.inr (by decide +kernel))]; exact h.1.1), (by rw [gi_si_ne (Or.inr (by decide +kernel))]; exact h.1.2.1), (by rw [gi_si_ne (Or.inr (by decide +kernel))]; exact h.1.2.2.1), (by rw [gi_si_eq]; exact ⟨h1, h2⟩), (by rw [gi_si_ne (Or.inr (by decide +kernel))]; exact h.1.2.2.2.2.1), (by rw [gi_si_ne (Or.inr (by decide +kernel))]; exact h.1.2.2.2.2.2.1), (by rw [gi_si_ne (Or.inr (by decide +kernel))]; exact h.1.2.2.2.2.2.2.1), (by rw [gi_si_ne (Or.inr (by decide +kernel))]; exact h.1.2.2.2.2.2.2.2.1), (by rw [gi_si_ne (Or.inr (by decide +kernel))]; exact h.1.2.2.2.2.2.2.2.2.1), (by rw [gi_si_ne (Or.inr (by decide +kernel))]; exact h.1.2.2.2.2.2.2.2.2.2.1), (by rw [gi_si_ne (Or.inr (by decide +kernel))]; exact h.1.2.2.2.2.2.2.2.2.2.2.1), (by rw [gi_si_ne (Or.inr (by decide +kernel))]; exact h.1.2.2.2.2.2.2.2.2.2.2.2.1), (by rw [gi_si_ne (Or.inr (by decide +kernel))]; exact h.1.2.2.2.2.2.2.2.2.2.2.2.2.1), (by rw [gi_si_ne (Or.inr (by decide +kernel))]; exact h.1.2.2.2.2.2.2.2.2.2.2.2.2.2.1), (by rw [gi_si_ne (Or.inr (by decide +kernel))]; exact h.1.2.2.2.2.2.2.2.2.2.2.2.2.2.2.1), (by rw [gi_si_ne (Or.inr (by decide +kernel))]; exact h.1.2.2.2.2.2.2.2.2.2.2.2.2.2.2.2.1), (by rw [gi_si_ne (Or.inr (by decide +kernel))]; exact h.1.2.2.2.2.2.2.2.2.2.2.2.2.2.2.2.2.1), (by rw [gi_si_ne (Or.inr (by decide +kernel))]; exact h.1.2.2.2.2.2.2.2.2.2.2.2.2.2.2.2.2.2.1), (by rw [gi_si_ne (Or.inr (by decide +kernel))]; exact h.1.2.2.2.2.2.2.2.2.2.2.2.2.2.2.2.2.2.2.1), (by rw [gi_si_ne (Or.inr (by decide +kernel))]; exact h.1.2.2.2.2.2.2.2.2.2.2.2.2.2.2.2.2.2.2.2.1), (by rw [gi_si_ne (Or.inr (by decide +kernel))]; exact h.1.2.2.2.2.2.2.2.2.2.2.2.2.2.2.2.2.2.2.2.2.1), (by rw [gi_si_ne (Or.inr (by decide +kernel))]; exact h.1.2.2.2.2.2.2.2.2.2.2.2.2.2.2.2.2.2.2.2.2.2)⟩, MI1_f h.2.1, hF⟩
theorem MIs_f12 {σ : Sg} (h : MI σ) {v : Int32} (h1 : -1 ≤ v.toInt) (h2 : v.toInt ≤ 5) (hF : FV (si σ 74 12 v)) : MI (si σ 74 12 v) := ⟨⟨(by rw [gi_si_ne (Or.inr (by decide +kernel))]; exact h.1.1), (by rw [gi_si_ne (Or.inr (by decide +kernel))]; exact h.1.2.1), (by rw [gi_si_ne (Or.inr (by decide +kernel))]; exact h.1.2.2.1), (by rw [gi_si_ne (Or.inr (by decide +kernel))]; exact h.1.2.2.2.1), (by rw [gi_si_eq]; exact ⟨h1, h2⟩), (by rw [gi_si_ne (Or.inr (by decide +kernel))]; exact h.1.2.2.2.2.2.1), (by rw [gi_si_ne (Or.inr (by decide +kernel))]; exact h.1.2.2.2.2.2.2.1), (by rw [gi_si_ne (Or.inr (by decide +kernel))]; exact h.1.2.2.2.2.2.2.2.1), (by rw [gi_si_ne (Or.inr (by decide +kernel))]; exact h.1.2.2.2.2.2.2.2.2.1), (by rw [gi_si_ne (Or.inr (by decide +kernel))]; exact h.1.2.2.2.2.2.2.2.2.2.1), (by rw [gi_si_ne (Or.inr (by decide +kernel))]; exact h.1.2.2.2.2.2.2.2.2.2.2.1), (by rw [gi_si_ne (Or.inr (by decide +kernel))]; exact h.1.2.2.2.2.2.2.2.2.2.2.2.1), (by rw [gi_si_ne (Or.inr (by decide +kernel))]; exact h.1.2.2.2.2.2.2.2.2.2.2.2.2.1), (by rw [gi_si_ne (Or.inr (by decide +kernel))]; exact h.1.2.2.2.2.2.2.2.2.2.2.2.2.2.1), (by rw [gi_si_ne (Or.inr (by decide +kernel))]; exact h.1.2.2.2.2.2.2.2.2.2.2.2.2.2.2.1), (by rw [gi_si_ne (Or.inr (by decide +kernel))]; exact h.1.2.2.2.2.2.2.2.2.2.2.2.2.2.2.2.1), (by rw [gi_si_ne (Or.inr (by decide +kernel))]; exact h.1.2.2.2.2.2.2.2.2.2.2.2.2.2.2.2.2.1), (by rw [gi_si_ne (Or.inr (by decide +kernel))]; exact h.1.2.2.2.2.2.2.2.2.2.2.2.2.2.2.2.2.2.1), (by rw [gi_si_ne (Or.inr (by decide +kernel))]; exact h.1.2.2.2.2.2.2.2.2.2.2.2.2.2.2.2.2.2.2.1), (by rw [gi_si_ne (Or.inr (by decide +kernel))]; exact h.1.2.2.2.2.2.2.2.2.2.2.2.2.2.2.2.2.2.2.2.1), (by rw [gi_si_ne (Or.inr (by decide +kernel))]; exact h.1.2.2.2.2.2.2.2.2.2.2.2.2.2.2.2.2.2.2.2.2.1), (by rw [gi_si_ne (Or.inr (by decide +kernel))]; exact h.1.2.2.2.2.2.2.2.2.2.2.2.2.2.2.2.2.2.2.2.2.2)⟩, MI1_f h.2.1, hF⟩
theorem MIs_f13 {σ : Sg} (h : MI σ) {v : Int32} (h1 : 0 ≤ v.toInt) (h2 : v.toInt ≤ 100) : MI (si σ 74 13 v) := ⟨⟨(by rw [gi_si_ne (Or.inr (by decide +kernel))]; exact h.1.1), (by rw [gi_si_ne (Or.inr (by decide +kernel))]; exact h.1.2.1), (by rw [gi_si_ne (Or.inr (by decide +kernel))]; exact h.1.2.2.1), (by rw [gi_si_ne (Or.inr (by decide +kernel))]; exact h.1.2.2.2.1), (by rw [gi_si_ne (Or.inr (by decide +kernel))]; exact h.1.2.2.2.2.1), (by rw [gi_si_eq]; exact ⟨h1, h2⟩), (by rw [gi_si_ne (Or.inr (by decide +kernel))]; exact h.1.2.2.2.2.2.2.1), (by rw [gi_si_ne (Or.inr (by decide +kernel))]; exact h.1.2.2.2.2.2.2.2.1), (by rw [gi_si_ne (Or.inr (by decide +kernel))]; exact h.1.2.2.2.2.2.2.2.2.1), (by rw [gi_si_ne (Or.inr (by decide +kernel))]; exact h.1.2.2.2.2.2.2.2.2.2.1), (by rw [gi_si_ne (Or.inr (by decide +kernel))]; exact h.1.2.2.2.2.2.2.2.2.2.2.1), (by rw [gi_si_ne (Or.inr (by decide +kernel))]; exact h.1.2.2.2.2.2.2.2.2.2.2.2.1), (by rw [gi_si_ne (Or.inr (by decide +kernel))]; exact h.1.2.2.2.2.2.2.2.2.2.2.2.2.1), (by rw [gi_si_ne (Or.inr (by decide +kernel))]; exact h.1.2.2.2.2.2.2.2.2.2.2.2.2.2.1), (by rw [gi_si_ne (Or.inr (by decide +kernel))]; exact h.1.2.2.2.2.2.2.2.2.2.2.2.2.2.2.1), (by rw [gi_si_ne (Or.inr (by decide +kernel))]; exact h.1.2.2.2.2.2.2.2.2.2.2.2.2.2.2.2.1), (by rw [gi_si_ne (Or.inr (by decide +kernel))]; exact h.1.2.2.2.2.2.2.2.2.2.2.2.2.2.2.2.2.1), (by rw [gi_si_ne (Or.inr (by decide +kernel))]; exact h.1.2.2.2.2.2.2.2.2.2.2.2.2.2.2.2.2.2.1), (by rw [gi_si_ne (Or.inr (by decide +kernel))]; exact h.1.2.2.2.2.2.2.2.2.2.2.2.2.2.2.2.2.2.2.1), (by rw [gi_si_ne (Or.inr (by decide +kernel))]; exact h.1.2.2.2.2.2.2.2.2.2.2.2.2.2.2.2.2.2.2.2.1), (by rw [gi_si_ne (Or.inr (by decide +kernel))]; exact h.1.2.2.2.2.2.2.2.2.2.2.2.2.2.2.2.2.2.2.2.2.1), (by rw [gi_si_ne (Or.inr (by decide +kernel))]; exact h.1.2.2.2.2.2.2.2.2.2.2.2.2.2.2.2.2.2.2.2.2.2)⟩, MI1_f h.2.1, FV_si rfl (fun _ => by decide +kernel) h.2.2⟩
theorem MIs_f14 {σ : Sg} (h : MI σ) {v : Int32} (h1 : 0 ≤ v.toInt) (h2 : v.toInt ≤ 100) : MI (si σ 74 14 v) := ⟨⟨(by rw [gi_si_ne (Or.inr (by decide +kernel))]; exact h.1.1), (by rw [gi_si_ne (Or.inr (by decide +kernel))]; exact h.1.2.1), (by rw [gi_si_ne (Or.inr (by decide +kernel))]; exact h.1.2.2.1), (by rw [gi_si_ne (Or.inr (by decide +kernel))]; exact h.1.2.2.2.1), (by rw [gi_si_ne (Or.inr (by decide +kernel))]; exact h.1.2.2.2.2.1), (by rw [gi_si_ne (Or.inr (by decide +kernel))]; exact h.1.2.2.2.2.2.1), (by rw [gi_si_eq]; exact ⟨h1, h2⟩), (by rw [gi_si_ne (Or.inr (by decide +kernel))]; exact h.1.2.2.2.2.2.2.2.1), (by rw [gi_si_ne (Or.inr (by decide +kernel))]; exact h.1.2.2.2.2.2.2.2.2.1), (by rw [gi_si_ne (Or.inr (by decide +kernel))]; exact h.1.2.2.2.2.2.2.2.2.2.1), (by rw [gi_si_ne (Or.inr (by decide +kernel))]; exact h.1.2.2.2.2.2.2.2.2.2.2.1), (by rw [gi_si_ne (Or.inr (by decide +kernel))]; exact h.1.2.2.2.2.2.2.2.2.2.2.2.1), (by rw [gi_si_ne (Or.inr (by decide +kernel))]; exact h.1.2.2.2.2.2.2.2.2.2.2.2.2.1), (by rw [gi_si_ne (Or.inr (by decide +kernel))]; exact h.1.2.2.2.2.2.2.2.2.2.2.2.2.2.1), (by rw [gi_si_ne (Or.inr (by decide +kernel))]; exact h.1.2.2.2.2.2.2.2.2.2.2.2.2.2.2.1), (by rw [gi_si_ne (Or.inr (by decide +kernel))]; exact h.1.2.2.2.2.2.2.2.2.2.2.2.2.2.2.2.1), (by rw [gi_si_ne (Or.inr (by decide +kernel))]; exact h.1.2.2.2.2.2.2.2.2.2.2.2.2.2.2.2.2.1), (by rw [gi_si_ne (Or.inr (by decide +kernel))]; exact h.1.2.2.2.2.2.2.2.2.2.2.2.2.2.2.2.2.2.1), (by rw [gi_si_ne (Or.inr (by decide +kernel))]; exact h.1.2.2.2.2.2.2.2.2.2.2.2.2.2.2.2.2.2.2.1), (by rw [gi_si_ne (Or.inr (by decide +kernel))]; exact h.1.2.2.2.2.2.2.2.2.2.2.2.2.2.2.2.2.2.2.2.1), (by rw [gi_si_ne (Or.inr (by decide +kernel))]; exact h.1.2.2.2.2.2.2.2.2.2.2.2.2.2.2.2.2.2.2.2.2.1), (by rw [gi_si_ne (Or.inr (by decide +kernel))]; exact h.1.2.2.2.2.2.2.2.2.2.2.2.2.2.2.2.2.2.2.2.2.2)⟩, MI1_f h.2.1, FV_si rfl (fun _ => by decide +kernel) h.2.2⟩
theorem MIs_f15 {σ : Sg} (h : MI σ) {v : Int32} (h1 : 0 ≤ v.toInt) (h2 : v.toInt ≤ 99) : MI (si σ 74 15 v) := ⟨⟨(by rw [gi_si_ne (Or.inr (by decide +kernel))]; exact h.1.1), (by rw [gi_si_ne (Or.inr (by decide +kernel))]; exact h.1.2.1), (by rw [gi_si_ne (Or.inr (by decide +kernel))]; exact h.1.2.2.1), (by rw [gi_si_ne (Or.inr (by decide +kernel))]; exact h.1.2.2.2.1), (by rw [gi_si_ne (Or.inr (by decide +kernel))]; exact h.1.2.2.2.2.1), (by rw [gi_si_ne (Or.inr (by decide +kernel))]; exact h.1.2.2.2.2.2.1), (by rw [gi_si_ne (Or.inr (by decide +kernel))]; exact h.1.2.2.2.2.2.2.1), (by rw [gi_si_eq]; exact ⟨h1, h2⟩), (by rw [gi_si_ne (Or.inr (by decide +kernel))]; exact h.1.2.2.2.2.2.2.2.2.1), (by rw [gi_si_ne (Or.inr (by decide +kernel))]; exact h.1.2.2.2.2.2.2.2.2.2.1), (by rw [gi_si_ne (Or.inr (by decide +kernel))]; exact h.1.2.2.2.2.2.2.2.2.2.2.1), (by rw [gi_si_ne (Or.inr (by decide +kernel))]; exact h.1.2.2.2.2.2.2.2.2.2.2.2.1), (by rw [gi_si_ne (Or.inr (by decide +kernel))]; exact h.1.2.2.2.2.2.2.2.2.2.2.2.2.1), (by rw [gi_si_ne (Or.inr (by decide +kernel))]; exact h.1.2.2.2.2.2.2.2.2.2.2.2.2.2.1), (by rw [gi_si_ne (Or.inr (by decide +kernel))]; exact h.1.2.2.2.2.2.2.2.2.2.2.2.2.2.2.1), (by rw [gi_si_ne (Or.inr (by decide +kernel))]; exact h.1.2.2.2.2.2.2.2.2.2.2.2.2.2.2.2.1), (by rw [gi_si_ne (Or.inr (by decide +kernel))]; exact h.1.2.2.2.2.2.2.2.2.2.2.2.2.2.2.2.2.1), (by rw [gi_si_ne (Or.inr (by decide +kernel))]; exact h.1.2.2.2.2.2.2.2.2.2.2.2.2.2.2.2.2.2.1), (by rw [gi_si_ne (Or.inr (by decide +kernel))]; exact h.1.2.2.2.2.2.2.2.2.2.2.2.2.2.2.2.2.2.2.1), (by rw [gi_si_ne (Or.inr (by decide +kernel))]; exact h.1.2.2.2.2.2.2.2.2.2.2.2.2.2.2.2.2.2.2.2.1), (by rw [gi_si_ne (Or.inr (by decide +kernel))]; exact h.1.2.2.2.2.2.2.2.2.2.2.2.2.2.2.2.2.2.2.2.2.1), (by rw [gi_si_ne (Or.inr (by decide +kernel))]; exact h.1.2.2.2.2.2.2.2.2.2.2.2.2.2.2.2.2.2.2.2.2.2)⟩, MI1_f h.2.1, FV_si rfl (fun _ => by decide +kernel) h.2.2⟩
theorem MIs_f24 {σ : Sg} (h : MI σ) {v : Int32} (h1 : 0 ≤ v.toInt) (h2 : v.toInt ≤ 600) : MI (si σ 74 24 v) := ⟨⟨(by rw [gi_si_ne (Or.inr (by decide +kernel))]; exact h.1.1), (by rw [gi_si_ne (Or.inr (by decide +kernel))]; exact h.1.2.1), (by rw [gi_si_ne (Or.inr (by decide +kernel))]; exact h.1.2.2.1), (by rw [gi_si_ne (Or.inr (by decide +kernel))]; exact h.1.2.2.2.1), (by rw [gi_si_ne (Or.inr (by decide +kernel))]; exact h.1.2.2.2.2.1), (by rw [gi_si_ne (Or.inr (by decide +kernel))]; exact h.1.2.2.2.2.2.1), (by rw [gi_si_ne (Or.inr (by decide +kernel))]; exact h.1.2.2.2.2.2.2.1), (by rw [gi_si_ne (Or.inr (by decide +kernel))]; exact h.1.2.2.2.2.2.2.2.1), (by rw [gi_si_eq]; exact ⟨h1, h2⟩), (by rw [gi_si_ne (Or.inr (by decide +kernel))]; exact h.1.2.2.2.2.2.2.2.2.2.1), (by rw [gi_si_ne (Or.inr (by decide +kernel))]; exact h.1.2.2.2.2.2.2.2.2.2.2.1), (by rw [gi_si_ne (Or.inr (by decide +kernel))]; exact h.1.2.2.2.2.2.2.2.2.2.2.2.1), (by rw [gi_si_ne (Or.inr (by decide +kernel))]; exact h.1.2.2.2.2.2.2.2.2.2.2.2.2.1), (by rw [gi_si_ne (Or.inr (by decide +kernel))]; exact h.1.2.2.2.2.2.2.2.2.2.2.2.2.2.1), (by rw [gi_si_ne (Or.inr (by decide +kernel))]; exact h.1.2.2.2.2.2.2.2.2.2.2.2.2.2.2.1), (by rw [gi_si_ne (Or.inr (by decide +kernel))]; exact h.1.2.2.2.2.2.2.2.2.2.2.2.2.2.2.2.1), (by rw [gi_si_ne (Or.inr (by decide +kernel))]; exact h.1.2.2.2.2.2.2.2.2.2.2.2.2.2.2.2.2.1), (by rw [gi_si_ne (Or.inr (by decide +kernel))]; exact h.1.2.2.2.2.2.2.2.2.2.2.2.2.2.2.2.2.2.1), (by rw [gi_si_ne (Or.inr (by decide +kernel))]; exact h.1.2.2.2.2.2.2.2.2.2.2.2.2.2.2.2.2.2.2.1), (by rw [gi_si_ne (Or.inr (by decide +kernel))]; exact h.1.2.2.2.2.2.2.2.2.2.2.2.2.2.2.2.2.2.2.2.1), (by rw [gi_si_ne (Or.inr (by decide +kernel))]; exact h.1.2.2.2.2.2.2.2.2.2.2.2.2.2.2.2.2.2.2.2.2.1), (by rw [gi_si_ne (Or.inr (by decide +kernel))]; exact h.1.2.2.2.2.2.2.2.2.2.2.2.2.2.2.2.2.2.2.2.2.2)⟩, MI1_f h.2.1, FV_si rfl (fun _ => by decide +kernel) h.2.2⟩
theorem MIs_f25 {σ : Sg} (h : MI σ) {v : Int32} (h1 : 0 ≤ v.toInt) (h2 : v.toInt ≤ 101) : MI (si σ 74 25 v) := ⟨⟨(by rw [gi_si_ne (Or.inr (by decide +kernel))]; exact h.1.1), (by rw [gi_si_ne (Or.inr (by decide +kernel))]; exact h.1.2.1), (by rw [gi_si_ne (Or.inr (by decide +kernel))]; exact h.1.2.2.1), (by rw [gi_si_ne (Or.inr (by decide +kernel))]; exact h.1.2.2.2.1), (by rw [gi_si_ne (Or.inr (by decide +kernel))]; exact h.1.2.2.2.2.1), (by rw [gi_si_ne (Or.inr (by decide +kernel))]; exact h.1.2.2.2.2.2.1), (by rw [gi_si_ne (Or.inr (by decide +kernel))]; exact h.1.2.2.2.2.2.2.1), (by rw [gi_si_ne (Or.inr (by decide +kernel))]; exact h.1.2.2.2.2.2.2.2.1), (by rw [gi_si_ne (Or.inr (by decide +kernel))]; exact h.1.2.2.2.2.2.2.2.2.1), (by rw [gi_si_eq]; exact ⟨h1, h2⟩), (by rw [gi_si_ne (Or.inr (by decide +kernel))]; exact h.1.2.2.2.2.2.2.2.2.2.2.1), (by rw [gi_si_ne (Or.inr (by decide +kernel))]; exact h.1.2.2.2.2.2.2.2.2.2.2.2.1), (by rw [gi_si_ne (Or.inr (by decide +kernel))]; exact h.1.2.2.2.2.2.2.2.2.2.2.2.2.1), (by rw [gi_si_ne (Or.inr (by decide +kernel))]; exact h.1.2.2.2.2.2.2.2.2.2.2.2.2.2.1), (by rw [gi_si_ne (Or.inr (by decide +kernel))]; exact h.1.2.2.2.2.2.2.2.2.2.2.2.2.2.2.1), (by rw [gi_si_ne (Or.inr (by decide +kernel))]; exact h.1.2.2.2.2.2.2.2.2.2.2.2.2.2.2.2.1), (by rw [gi_si_ne (Or.inr (by decide +kernel))]; exact h.1.2.2.2.2.2.2.2.2.2.2.2.2.2.2.2.2.1), (by rw [gi_si_ne (Or.inr (by decide +kernel))]; exact h.1.2.2.2.2.2.2.2.2.2.2.2.2.2.2.2.2.2.1), (by rw [gi_si_ne (Or.inr (by decide +kernel))]; exact h.1.2.2.2.2.2.2.2.2.2.2.2.2.2.2.2.2.2.2.1), (by rw [gi_si_ne (Or.inr (by decide +kernel))]; exact h.1.2.2.2.2.2.2.2.2.2.2.2.2.2.2.2.2.2.2.2.1), (by rw [gi_si_ne (Or.inr (by decide +kernel))]; exact h.1.2.2.2.2.2.2.2.2.2.2.2.2.2.2.2.2.2.2.2.2.1), (by rw [gi_si_ne (Or.inr (by decide +kernel))]; exact h.1.2.2.2.2.2.2.2.2.2.2.2.2.2.2.2.2.2.2.2.2.2)⟩, MI1_f h.2.1, FV_si rfl (fun _ => by decide +kernel) h.2.2⟩
theorem MIs_f30 {σ : Sg} (h : MI σ) {v : Int32} (h1 : -100 ≤ v.toInt) (h2 : v.toInt ≤ 100) : MI (si σ 74 30 v) := ⟨⟨(by rw [gi_si_ne (Or.inr (by decide +kernel))]; exact h.1.1), (by rw [gi_si_ne (Or.inr (by decide +kernel))]; exact h.1.2.1), (by rw [gi_si_ne (Or.inr (by decide +kernel))]; exact h.1.2.2.1), (by rw [gi_si_ne (Or.inr (by decide +kernel))]; exact h.1.2.2.2.1), (by rw [gi_si_ne (Or.inr (by decide +kernel))]; exact h.1.2.2.2.2.1), (by rw [gi_si_ne (Or.inr (by decide +kernel))]; exact h.1.2.2.2.2.2.1), (by rw [gi_si_ne (Or.inr (by decide +kernel))]; exact h.1.2.2.2.2.2.2.1), (by rw [gi_si_ne (Or.inr (by decide +kernel))]; exact h.1.2.2.2.2.2.2.2.1), (by rw [gi_si_ne (Or.inr (by decide +kernel))]; exact h.1.2.2.2.2.2.2.2.2.1), (by rw [gi_si_ne (Or.inr (by decide +kernel))]; exact h.1.2.2.2.2.2.2.2.2.2.1), (by rw [gi_si_eq]; exact ⟨h1, h2⟩), (by rw [gi_si_ne (Or.inr (by decide +kernel))]; exact h.1.2.2.2.2.2.2.2.2.2.2.2.1), (by rw [gi_si_ne (Or.inr (by decide +kernel))]; exact h.1.2.2.2.2.2.2.2.2.2.2.2.2.1), (by rw [gi_si_ne (Or.inr (by decide +kernel))]; exact h.1.2.2.2.2.2.2.2.2.2.2.2.2.2.1), (by rw [gi_si_ne (Or.inr (by decide +kernel))]; exact h.1.2.2.2.2.2.2.2.2.2.2.2.2.2.2.1), (by rw [gi_si_ne (Or.inr (by decide +kernel))]; exact h.1.2.2.2.2.2.2.2.2.2.2.2.2.2.2.2.1), (by rw [gi_si_ne (Or.inr (by decide +kernel))]; exact h.1.2.2.2.2.2.2.2.2.2.2.2.2.2.2.2.2.1), (by rw [gi_si_ne (Or.inr (by decide +kernel))]; exact h.1.2.2.2.2.2.2.2.2.2.2.2.2.2.2.2.2.2.1), (by rw [gi_si_ne (Or.inr (by decide +kernel))]; exact h.1.2.2.2.2.2.2.2.2.2.2.2.2.2.2.2.2.2.2.1), (by rw [gi_si_ne (Or.inr (by decide +kernel))]; exact h.1.2.2.2.2.2.2.2.2.2.2.2.2.2.2.2.2.2.2.2.1), (by rw [gi_si_ne (Or.inr (by decide +kernel))]; exact h.1.2.2.2.2.2.2.2.2.2.2.2.2.2.2.2.2.2.2.2.2.1), (by rw [gi_si_ne (Or.inr (by decide +kernel))]; exact h.1.2.2.2.2.2.2.2.2.2.2.2.2.2.2.2.2.2.2.2.2.2)⟩, MI1_f h.2.1, FV_si rfl (fun _ => by decide +kernel) h.2.2⟩
theorem MIs_f33 {σ : Sg} (h : MI σ) {v : Int32} (h1 : 0 ≤ v.toInt) (h2 : v.toInt ≤ 20000) : MI (si σ 74 33 v) := ⟨⟨(by rw [gi_si_ne (Or.inr (by decide +kernel))]; exact h.1.1), (by rw [gi_si_ne (Or.inr (by decide +kernel))]; exact h.1.2.1), (by rw [gi_si_ne (Or.inr (by decide +kernel))]; exact h.1.2.2.1), (by rw [gi_si_ne (Or.inr (by decide +kernel))]; exact h.1.2.2.2.1), (by rw [gi_si_ne (Or.inr (by decide +kernel))]; exact h.1.2.2.2.2.1), (by rw [gi_si_ne (Or.inr (by decide +kernel))]; exact h.1.2.2.2.2.2.1), (by rw [gi_si_ne (Or.inr (by decide +kernel))]; exact h.1.2.2.2.2.2.2.1), (by rw [gi_si_ne (Or.inr (by decide +kernel))]; exact h.1.2.2.2.2.2.2.2.1), (by rw [gi_si_ne (Or.inr (by decide +kernel))]; exact h.1.2.2.2.2.2.2.2.2.1), (by rw [gi_si_ne (Or.inr (by decide +kernel))]; exact h.1.2.2.2.2.2.2.2.2.2.1), (by rw [gi_si_ne (Or.inr (by decide +kernel))]; exact h.1.2.2.2.2.2.2.2.2.2.2.1), (by rw [gi_si_eq]; exact ⟨h1, h2⟩), (by rw [gi_si_ne (Or.inr (by decide +kernel))]; exact h.1.2.2.2.2.2.2.2.2.2.2.2.2.1), (by rw [gi_si_ne (Or.inr (by decide +kernel))]; exact h.1.2.2.2.2.2.2.2.2.2.2.2.2.2.1), (by rw [gi_si_ne (Or.inr (by decide +kernel))]; exact h.1.2.2.2.2.2.2.2.2.2.2.2.2.2.2.1), (by rw [gi_si_ne (Or.inr (by decide +kernel))]; exact h.1.2.2.2.2.2.2.2.2.2.2.2.2.2.2.2.1), (by rw [gi_si_ne (Or.inr (by decide +kernel))]; exact h.1.2.2.2.2.2.2.2.2.2.2.2.2.2.2.2.2.1), (by rw [gi_si_ne (Or.inr (by decide +kernel))]; exact h.1.2.2.2.2.2.2.2.2.2.2.2.2.2.2.2.2.2.1), (by rw [gi_si_ne (Or.inr (by decide +kernel))]; exact h.1.2.2.2.2.2.2.2.2.2.2.2.2.2.2.2.2.2.2.1), (by rw [gi_si_ne (Or.inr (by decide +kernel))]; exact h.1.2.2.2.2.2.2.2.2.2.2.2.2.2.2.2.2.2.2.2.1), (by rw [gi_si_ne (Or.inr (by decide +kernel))]; exact h.1.2.2.2.2.2.2.2.2.2.2.2.2.2.2.2.2.2.2.2.2.1), (by rw [gi_si_ne (Or.inr (by decide +kernel))]; exact h.1.2.2.2.2.2.2.2.2.2.2.2.2.2.2.2.2.2.2.2.2.2)⟩, MI1_f h.2.1, FV_si rfl (fun _ => by decide +kernel) h.2.2⟩
theorem MIs_f41 {σ : Sg} (h : MI σ) {v : Int32} (h1 : 0 ≤ v.toInt) (h2 : v.toInt ≤ 6) : MI (si σ 74 41 v) := ⟨⟨(by rw [gi_si_ne (Or.inr (by decide +kernel))]; exact h.1.1), (by rw [gi_si_ne (Or.inr (by decide +kernel))]; exact h.1.2.1), (by rw [gi_si_ne (Or.inr (by decide +kernel))]; exact h.1.2.2.1), (by rw [gi_si_ne (Or.inr (by decide +kernel))]; exact h.1.2.2.2.1), (by rw [gi_si_ne (Or.inr (by decide +kernel))]; exact h.1.2.2.2.2.1), (by rw [gi_si_ne (Or.inr (by decide +kernel))]; exact h.1.2.2.2.2.2.1), (by rw [gi_si_ne (Or.inr (by decide +kernel))]; exact h.1.2.2.2.2.2.2.1), (by rw [gi_si_ne (Or.inr (by decide +kernel))]; exact h.1.2.2.2.2.2.2.2.1), (by rw [gi_si_ne (Or.inr (by decide +kernel))]; exact h.1.2.2.2.2.2.2.2.2.1), (by rw [gi_si_ne (Or.inr (by decide +kernel))]; exact h.1.2.2.2.2.2.2.2.2.2.1), (by rw [gi_si_ne (Or.inr (by decide +kernel))]; exact h.1.2.2.2.2.2.2.2.2.2.2.1), (by rw [gi_si_ne (Or.inr (by decide +kernel))]; exact h.1.2.2.2.2.2.2.2.2.2.2.2.1), (by rw [gi_si_eq]; exact ⟨h1, h2⟩), (by rw [gi_si_ne (Or.inr (by decide +kernel))]; exact h.1.2.2.2.2.2.2.2.2.2.2.2.2.2.1), (by rw [gi_si_ne (Or.inr (by decide +kernel))]; exact h.1.2.2.2.2.2.2.2.2.2.2.2.2.2.2.1), (by rw [gi_si_ne (Or.inr (by decide +kernel))]; exact h.1.2.2.2.2.2.2.2.2.2.2.2.2.2.2.2.1), (by rw [gi_si_ne (Or.inr (by decide +kernel))]; exact h.1.2.2.2.2.2.2.2.2.2.2.2.2.2.2.2.2.1), (by rw [gi_si_ne (Or.inr (by decide +kernel))]; exact h.1.2.2.2.2.2.2.2.2.2.2.2.2.2.2.2.2.2.1), (by rw [gi_si_ne (Or.inr (by decide +kernel))]; exact h.1.2.2.2.2.2.2.2.2.2.2.2.2.2.2.2.2.2.2.1), (by rw [gi_si_ne (Or.inr (by decide +kernel))]; exact h.1.2.2.2.2.2.2.2.2.2.2.2.2.2.2.2.2.2.2.2.1), (by rw [gi_si_ne (Or.inr (by decide +kernel))]; exact h.1.2.2.2.2.2.2.2.2.2.2.2.2.2.2.2.2.2.2.2.2.1), (by rw [gi_si_ne (Or.inr (by decide +kernel))]; exact h.1.2.2.2.2.2.2.2.2.2.2.2.2.2.2.2.2.2.2.2.2.2)⟩, MI1_f h.2.1, FV_si rfl (fun _ => by decide +kernel) h.2.2⟩
theorem MIs_f45 {σ : Sg} (h : MI σ) {v : Int32} (h1 : 0 ≤ v.toInt) (h2 : v.toInt ≤ 10) : MI (si σ 74 45 v) := ⟨⟨(by rw [gi_si_ne (Or.inr (by decide +kernel))]; exact h.1.1), (by rw [gi_si_ne (Or.inr (by decide +kernel))]; exact h.1.2.1), (by rw [gi_si_ne (Or.inr (by decide +kernel))]; exact h.1.2.2.1), (by rw [gi_si_ne (Or.inr (by decide +kernel))]; exact h.1.2.2.2.1), (by rw [gi_si_ne (Or.inr (by decide +kernel))]; exact h.1.2.2.2.2.1), (by rw [gi_si_ne (Or.inr (by decide +kernel))]; exact h.1.2.2.2.2.2.1), (by rw [gi_si_ne (Or.inr (by decide +kernel))]; exact h.1.2.2.2.2.2.2.1), (by rw [gi_si_ne (Or.inr (by decide +kernel))]; exact h.1.2.2.2.2.2.2.2.1), (by rw [gi_si_ne (Or.inr (by decide +kernel))]; exact h.1.2.2.2.2.2.2.2.2.1), (by rw [gi_si_ne (Or.inr (by decide +kernel))]; exact h.1.2.2.2.2.2.2.2.2.2.1), (by rw [gi_si_ne (Or.inr (by decide +kernel))]; exact h.1.2.2.2.2.2.2.2.2.2.2.1), (by rw [gi_si_ne (Or.inr (by decide +kernel))]; exact h.1.2.2.2.2.2.2.2.2.2.2.2.1), (by rw [gi_si_ne (Or.inr (by decide +kernel))]; exact h.1.2.2.2.2.2.2.2.2.2.2.2.2.1), (by rw [gi_si_eq]; exact ⟨h1, h2⟩), (by rw [gi_si_ne (Or.inr (by decide +kernel))]; exact h.1.2.2.2.2.2.2.2.2.2.2.2.2.2.2.1), (by rw [gi_si_ne (Or.inr (by decide +kernel))]; exact h.1.2.2.2.2.2.2.2.2.2.2.2.2.2.2.2.1), (by rw [gi_si_ne (Or.inr (by decide +kernel))]; exact h.1.2.2.2.2.2.2.2.2.2.2.2.2.2.2.2.2.1), (by rw [gi_si_ne (Or.inr (by decide +kernel))]; exact h.1.2.2.2.2.2.2.2.2.2.2.2.2.2.2.2.2.2.1), (by rw [gi_si_ne (Or.inr (by decide +kernel))]; exact h.1.2.2.2.2.2.2.2.2.2.2.2.2.2.2.2.2.2.2.1), (by rw [gi_si_ne (Or.inr (by decide +kernel))]; exact h.1.2.2.2.2.2.2.2.2.2.2.2.2.2.2.2.2.2.2.2.1), (by rw [gi_si_ne (Or.inr (by decide +kernel))]; exact h.1.2.2.2.2.2.2.2.2.2.2.2.2.2.2.2.2.2.2.2.2.1), (by rw [gi_si_ne (Or.inr (by decide +kernel))]; exact h.1.2.2.2.2.2.2.2.2.2.2.2.2.2.2.2.2.2.2.2.2.2)⟩, MI1_f h.2.1, FV_si rfl (fun _ => by decide +kernel) h.2.2⟩
theorem MIs_f46 {σ : Sg} (h : MI σ) {v : Int32} (h1 : 0 ≤ v.toInt) (h2 : v.toInt ≤ 8) : MI (si σ 74 46 v) := ⟨⟨(by rw [gi_si_ne (Or.inr (by decide +kernel))]; exact h.1.1), (by rw [gi_si_ne (Or.inr (by decide +kernel))]; exact h.1.2.1), (by rw [gi_si_ne (Or.inr (by decide +kernel))]; exact h.1.2.2.1), (by rw [gi_si_ne (Or.inr (by decide +kernel))]; exact h.1.2.2.2.1), (by rw [gi_si_ne (Or.inr (by decide +kernel))]; exact h.1.2.2.2.2.1), (by rw [gi_si_ne (Or.inr (by decide +kernel))]; exact h.1.2.2.2.2.2.1), (by rw [gi_si_ne (Or.inr (by decide +kernel))]; exact h.1.2.2.2.2.2.2.1), (by rw [gi_si_ne (Or.inr (by decide +kernel))]; exact h.1.2.2.2.2.2.2.2.1), (by rw [gi_si_ne (Or.inr (by decide +kernel))]; exact h.1.2.2.2.2.2.2.2.2.1), (by rw [gi_si_ne (Or.inr (by decide +kernel))]; exact h.1.2.2.2.2.2.2.2.2.2.1), (by rw [gi_si_ne (Or.inr (by decide +kernel))]; exact h.1.2.2.2.2.2.2.2.2.2.2.1), (by rw [gi_si_ne (Or.inr (by decide +kernel))]; exact h.1.2.2.2.2.2.2.2.2.2.2.2.1), (by rw [gi_si_ne (Or.inr (by decide +kernel))]; exact h.1.2.2.2.2.2.2.2.2.2.2.2.2.1), (by rw [gi_si_ne (Or.inr (by decide +kernel))]; exact h.1.2.2.2.2.2.2.2.2.2.2.2.2.2.1), (by rw [gi_si_eq]; exact ⟨h1, h2⟩), (by rw [gi_si_ne (Or.inr (by decide +kernel))]; exact h.1.2.2.2.2.2.2.2.2.2.2.2.2.2.2.2.1), (by rw [gi_si_ne (Or.inr (by decide +kernel))]; exact h.1.2.2.2.2.2.2.2.2.2.2.2.2.2.2.2.2.1), (by rw [gi_si_ne (Or.inr (by decide +kernel))]; exact h.1.2.2.2.2.2.2.2.2.2.2.2.2.2.2.2.2.2.1), (by rw [gi_si_ne (Or.inr (by decide +kernel))]; exact h.1.2.2.2.2.2.2.2.2.2.2.2.2.2.2.2.2.2.2.1), (by rw [gi_si_ne (Or.inr (by decide +kernel))]; exact h.1.2.2.2.2.2.2.2.2.2.2.2.2.2.2.2.2.2.2.2.1), (by rw [gi_si_ne (Or.inr (by decide +kernel))]; exact h.1.2.2.2.2.2.2.2.2.2.2.2.2.2.2.2.2.2.2.2.2.1), (by rw [gi_si_ne (Or.inr (by decide +kernel))]; exact h.1.2.2.2.2.2.2.2.2.2.2.2.2.2.2.2.2.2.2.2.2.2)⟩, MI1_f h.2.1, FV_si rfl (fun _ => by decide +kernel) h.2.2⟩
theorem MIs_f50 {σ : Sg} (h : MI σ) {v : Int32} (h1 : -1 ≤ v.toInt) (h2 : v.toInt ≤ 5) (hF : FV (si σ 74 50 v)) : MI (si σ 74 50 v) := ⟨⟨(by rw [gi_si_ne (Or.inr (by decide +kernel))]; exact h.1.1), (by rw [gi_si_ne (Or.inr (by decide +kernel))]; exact h.1.2.1), (by rw [gi_si_ne (Or.inr (by decide +kernel))]; exact h.1.2.2.1), (by rw [gi_si_ne (Or.inr (by decide +kernel))]; exact h.1.2.2.2.1), (by rw [gi_si_ne (Or.inr (by decide +kernel))]; exact h.1.2.2.2.2.1), (by rw [gi_si_ne (Or.inr (by decide +kernel))]; exact h.1.2.2.2.2.2.1), (by rw [gi_si_ne (Or.inr (by decide +kernel))]; exact h.1.2.2.2.2.2.2.1), (by rw [gi_si_ne (Or.inr (by decide +kernel))]; exact h.1.2.2.2.2.2.2.2.1), (by rw [gi_si_ne (Or.inr (by decide +kernel))]; exact h.1.2.2.2.2.2.2.2.2.1), (by rw [gi_si_ne (Or.inr (by decide +kernel))]; exact h.1.2.2.2.2.2.2.2.2.2.1), (by rw [gi_si_ne (Or.inr (by decide +kernel))]; exact h.1.2.2.2.2.2.2.2.2.2.2.1), (by rw [gi_si_ne (Or.inr (by decide +kernel))]; exact h.1.2.2.2.2.2.2.2.2.2.2.2.1), (by rw [gi_si_ne (Or.inr (by decide +kernel))]; exact h.1.2.2.2.2.2.2.2.2.2.2.2.2.1), (by rw [gi_si_ne (Or.inr (by decide +kernel))]; exact h.1.2.2.2.2.2.2.2.2.2.2.2.2.2.1), (by rw [gi_si_ne (Or.inr (by decide +kernel))]; exact h.1.2.2.2.2.2.2.2.2.2.2.2.2.2.2.1), (by rw [gi_si_eq]; exact ⟨h1, h2⟩), (by rw [gi_si_ne (Or.inr (by decide +kernel))]; exact h.1.2.2.2.2.2.2.2.2.2.2.2.2.2.2.2.2.1), (by rw [gi_si_ne (Or.inr (by decide +kernel))]; exact h.1.2.2.2.2.2.2.2.2.2.2.2.2.2.2.2.2.2.1), (by rw [gi_si_ne (Or.inr (by decide +kernel))]; exact h.1.2.2.2.2.2.2.2.2.2.2.2.2.2.2.2.2.2.2.1), (by rw [gi_si_ne (Or.inr (by decide +kernel))]; exact h.1.2.2.2.2.2.2.2.2.2.2.2.2.2.2.2.2.2.2.2.1), (by rw [gi_si_ne (Or.inr (by decide +kernel))]; exact h.1.2.2.2.2.2.2.2.2.2.2.2.2.2.2.2.2.2.2.2.2.1), (by rw [gi_si_ne (Or.inr (by decide +kernel))]; exact h.1.2.2.2.2.2.2.2.2.2.2.2.2.2.2.2.2.2.2.2.2.2)⟩, MI1_f h.2.1, hF⟩
theorem MIs_f51 {σ : Sg} (h : MI σ) {v : Int32} (h1 : 0 ≤ v.toInt) (h2 : v.toInt ≤ 6) : MI (si σ 74 51 v) := ⟨⟨(by rw [gi_si_ne (Or.inr (by decide +kernel))]; exact h.1.1), (by rw [gi_si_ne (Or.inr (by decide +kernel))]; exact h.1.2.1), (by rw [gi_si_ne (Or.inr (by decide +kernel))]; exact h.1.2.2.1), (by rw [gi_si_ne (Or.inr (by decide +kernel))]; exact h.1.2.2.2.1), (by rw [gi_si_ne (Or.inr (by decide +kernel))]; exact h.1.2.2.2.2.1), (by rw [gi_si_ne (Or.inr (by decide +kernel))]; exact h.1.2.2.2.2.2.1), (by rw [gi_si_ne (Or.inr (by decide +kernel))]; exact h.1.2.2.2.2.2.2.1), (by rw [gi_si_ne (Or.inr (by decide +kernel))]; exact h.1.2.2.2.2.2.2.2.1), (by rw [gi_si_ne (Or.inr (by decide +kernel))]; exact h.1.2.2.2.2.2.2.2.2.1), (by rw [gi_si_ne (Or.inr (by decide +kernel))]; exact h.1.2.2.2.2.2.2.2.2.2.1), (by rw [gi_si_ne (Or.inr (by decide +kernel))]; exact h.1.2.2.2.2.2.2.2.2.2.2.1), (by rw [gi_si_ne (Or.inr (by decide +kernel))]; exact h.1.2.2.2.2.2.2.2.2.2.2.2.1), (by rw [gi_si_ne (Or.inr (by decide +kernel))]; exact h.1.2.2.2.2.2.2.2.2.2.2.2.2.1), (by rw [gi_si_ne (Or.inr (by decide +kernel))]; exact h.1.2.2.2.2.2.2.2.2.2.2.2.2.2.1), (by rw [gi_si_ne (Or.inr (by decide +kernel))]; exact h.1.2.2.2.2.2.2.2.2.2.2.2.2.2.2.1), (by rw [gi_si_ne (Or.inr (by decide +kernel))]; exact h.1.2.2.2.2.2.2.2.2.2.2.2.2.2.2.2.1), (by rw [gi_si_eq]; exact ⟨h1, h2⟩), (by rw [gi_si_ne (Or.inr (by decide +kernel))]; exact h.1.2.2.2.2.2.2.2.2.2.2.2.2.2.2.2.2.2.1), (by rw [gi_si_ne (Or.inr (by decide +kernel))]; exact h.1.2.2.2.2.2.2.2.2.2.2.2.2.2.2.2.2.2.2.1), (by rw [gi_si_ne (Or.inr (by decide +kernel))]; exact h.1.2.2.2.2.2.2.2.2.2.2.2.2.2.2.2.2.2.2.2.1), (by rw [gi_si_ne (Or.inr (by decide +kernel))]; exact h.1.2.2.2.2.2.2.2.2.2.2.2.2.2.2.2.2.2.2.2.2.1), (by rw [gi_si_ne (Or.inr (by decide +kernel))]; exact h.1.2.2.2.2.2.2.2.2.2.2.2.2.2.2.2.2.2.2.2.2.2)⟩, MI1_f h.2.1, FV_si rfl (fun _ => by decide +kernel) h.2.2⟩
theorem MIs_f52 {σ : Sg} (h : MI σ) {v : Int32} (h1 : 0 ≤ v.toInt) (h2 : v.toInt ≤ 20000) : MI (si σ 74 52 v) := ⟨⟨(by rw [gi_si_ne (Or.inr (by decide +kernel))]; exact h.1.1), (by rw [gi_si_ne (Or.inr (by decide +kernel))]; exact h.1.2.1), (by rw [gi_si_ne (Or.inr (by decide +kernel))]; exact h.1.2.2.1), (by rw [gi_si_ne (Or.inr (by decide +kernel))]; exact h.1.2.2.2.1), (by rw [gi_si_ne (Or.inr (by decide +kernel))]; exact h.1.2.2.2.2.1), (by rw [gi_si_ne (Or.inr (by decide +kernel))]; exact h.1.2.2.2.2.2.1), (by rw [gi_si_ne (Or.inr (by decide +kernel))]; exact h.1.2.2.2.2.2.2.1), (by rw [gi_si_ne (Or.inr (by decide +kernel))]; exact h.1.2.2.2.2.2.2.2.1), (by rw [gi_si_ne (Or.inr (by decide +kernel))]; exact h.1.2.2.2.2.2.2.2.2.1), (by rw [gi_si_ne (Or.inr (by decide +kernel))]; exact h.1.2.2.2.2.2.2.2.2.2.1), (by rw [gi_si_ne (Or.inr (by decide +kernel))]; exact h.1.2.2.2.2.2.2.2.2.2.2.1), (by rw [gi_si_ne (Or.inr (by decide +kernel))]; exact h.1.2.2.2.2.2.2.2.2.2.2.2.1), (by rw [gi_si_ne (Or.inr (by decide +kernel))]; exact h.1.2.2.2.2.2.2.2.2.2.2.2.2.1), (by rw [gi_si_ne (Or.inr (by decide +kernel))]; exact h.1.2.2.2.2.2.2.2.2.2.2.2.2.2.1), (by rw [gi_si_ne (Or.inr (by decide +kernel))]; exact h.1.2.2.2.2.2.2.2.2.2.2.2.2.2.2.1), (by rw [gi_si_ne (Or.inr (by decide +kernel))]; exact h.1.2.2.2.2.2.2.2.2.2.2.2.2.2.2.2.1), (by rw [gi_si_ne (Or.inr (by decide +kernel))]; exact h.1.2.2.2.2.2.2.2.2.2.2.2.2.2.2.2.2.1), (by rw [gi_si_eq]; exact ⟨h1, h2⟩), (by rw [gi_si_ne (Or.inr (by decide +kernel))]; exact h.1.2.2.2.2.2.2.2.2.2.2.2.2.2.2.2.2.2.2.1), (by rw [gi_si_ne (Or.inr (by decide +kernel))]; exact h.1.2.2.2.2.2.2.2.2.2.2.2.2.2.2.2.2.2.2.2.1), (by rw [gi_si_ne (Or.inr (by decide +kernel))]; exact h.1.2.2.2.2.2.2.2.2.2.2.2.2.2.2.2.2.2.2.2.2.1), (by rw [gi_si_ne (Or.inr (by decide +kernel))]; exact h.1.2.2.2.2.2.2.2.2.2.2.2.2.2.2.2.2.2.2.2.2.2)⟩, MI1_f h.2.1, FV_si rfl (fun _ => by decide +kernel) h.2.2⟩
theorem MIs_f53 {σ : Sg} (h : MI σ) {v : Int32} (h1 : 0 ≤ v.toInt) (h2 : v.toInt ≤ 6) : MI (si σ 74 53 v) := ⟨⟨(by rw [gi_si_ne (Or.inr (by decide +kernel))]; exact h.1.1), (by rw [gi_si_ne (Or.inr (by decide +kernel))]; exact h.1.2.1), (by rw [gi_si_ne (Or.inr (by decide +kernel))]; exact h.1.2.2.1), (by rw [gi_si_ne (Or.inr (by decide +kernel))]; exact h.1.2.2.2.1), (by rw [gi_si_ne (Or.inr (by decide +kernel))]; exact h.1.2.2.2.2.1), (by rw [gi_si_ne (Or.inr (by decide +kernel))]; exact h.1.2.2.2.2.2.1), (by rw [gi_si_ne (Or.inr (by decide +kernel))]; exact h.1.2.2.2.2.2.2.1), (by rw [gi_si_ne (Or.inr (by decide +kernel))]; exact h.1.2.2.2.2.2.2.2.1), (by rw [gi_si_ne (Or.inr (by decide +kernel))]; exact h.1.2.2.2.2.2.2.2.2.1), (by rw [gi_si_ne (Or.inr (by decide +kernel))]; exact h.1.2.2.2.2.2.2.2.2.2.1), (by rw [gi_si_ne (Or.inr (by decide +kernel))]; exact h.1.2.2.2.2.2.2.2.2.2.2.1), (by rw [gi_si_ne (Or.inr (by decide +kernel))]; exact h.1.2.2.2.2.2.2.2.2.2.2.2.1), (by rw [gi_si_ne (Or.inr (by decide +kernel))]; exact h.1.2.2.2.2.2.2.2.2.2.2.2.2.1), (by rw [gi_si_ne (Or.inr (by decide +kernel))]; exact h.1.2.2.2.2.2.2.2.2.2.2.2.2.2.1), (by rw [gi_si_ne (Or.inr (by decide +kernel))]; exact h.1.2.2.2.2.2.2.2.2.2.2.2.2.2.2.1), (by rw [gi_si_ne (Or.inr (by decide +kernel))]; exact h.1.2.2.2.2.2.2.2.2.2.2.2.2.2.2.2.1), (by rw [gi_si_ne (Or.inr (by decide +kernel))]; exact h.1.2.2.2.2.2.2.2.2.2.2.2.2.2.2.2.2.1), (by rw [gi_si_ne (Or.inr (by decide +kernel))]; exact h.1.2.2.2.2.2.2.2.2.2.2.2.2.2.2.2.2.2.1), (by rw [gi_si_eq]; exact ⟨h1, h2⟩), (by rw [gi_si_ne (Or.inr (by decide +kernel))]; exact h.1.2.2.2.2.2.2.2.2.2.2.2.2.2.2.2.2.2.2.2.1), (by rw [gi_si_ne (Or.inr (by decide +kernel))]; exact h.1.2.2.2.2.2.2.2.2.2.2.2.2.2.2.2.2.2.2.2.2.1), (by rw [gi_si_ne (Or.inr (by decide +kernel))]; exact h.1.2.2.2.2.2.2.2.2.2.2.2.2.2.2.2.2.2.2.2.2.2)⟩, MI1_f h.2.1, FV_si rfl (fun _ => by decide +kernel) h.2.2⟩
theorem MIs_f54 {σ : Sg} (h : MI σ) {v : Int32} (h1 : 0 ≤ v.toInt) (h2 : v.toInt ≤ 10) : MI (si σ 74 54 v) := ⟨⟨(by rw [gi_si_ne (Or.inr (by decide +kernel))]; exact h.1.1), (by rw [gi_si_ne (Or.inr (by decide +kernel))]; exact h.1.2.1), (by rw [gi_si_ne (Or.inr (by decide +kernel))]; exact h.1.2.2.1), (by rw [gi_si_ne (Or.inr (by decide +kernel))]; exact h.1.2.2.2.1), (by rw [gi_si_ne (Or.inr (by decide +kernel))]; exact h.1.2.2.2.2.1), (by rw [gi_si_ne (Or.inr (by decide +kernel))]; exact h.1.2.2.2.2.2.1), (by rw [gi_si_ne (Or.inr (by decide +kernel))]; exact h.1.2.2.2.2.2.2.1), (by rw [gi_si_ne (Or.inr (by decide +kernel))]; exact h.1.2.2.2.2.2.2.2.1), (by rw [gi_si_ne (Or.inr (by decide +kernel))]; exact h.1.2.2.2.2.2.2.2.2.1), (by rw [gi_si_ne (Or.inr (by decide +kernel))]; exact h.1.2.2.2.2.2.2.2.2.2.1), (by rw [gi_si_ne (Or.inr (by decide +kernel))]; exact h.1.2.2.2.2.2.2.2.2.2.2.1), (by rw [gi_si_ne (Or.inr (by decide +kernel))]; exact h.1.2.2.2.2.2.2.2.2.2.2.2.1), (by rw [gi_si_ne (Or.inr (by decide +kernel))]; exact h.1.2.2.2.2.2.2.2.2.2.2.2.2.1), (by rw [gi_si_ne (Or.inr (by decide +kernel))]; exact h.1.2.2.2.2.2.2.2.2.2.2.2.2.2.1), (by rw [gi_si_ne (Or.inr (by decide +kernel))]; exact h.1.2.2.2.2.2.2.2.2.2.2.2.2.2.2.1), (by rw [gi_si_ne (Or.inr (by decide +kernel))]; exact h.1.2.2.2.2.2.2.2.2.2.2.2.2.2.2.2.1), (by rw [gi_si_ne (Or.inr (by decide +kernel))]; exact h.1.2.2.2.2.2.2.2.2.2.2.2.2.2.2.2.2.1), (by rw [gi_si_ne (Or.inr (by decide +kernel))]; exact h.1.2.2.2.2.2.2.2.2.2.2.2.2.2.2.2.2.2.1), (by rw [gi_si_ne (Or.inr (by decide +kernel))]; exact h.1.2.2.2.2.2.2.2.2.2.2.2.2.2.2.2.2.2.2.1), (by rw [gi_si_eq]; exact ⟨h1, h2⟩), (by rw [gi_si_ne (Or.inr (by decide +kernel))]; exact h.1.2.2.2.2.2.2.2.2.2.2.2.2.2.2.2.2.2.2.2.2.1), (by rw [gi_si_ne (Or.inr (by decide +kernel))]; exact h.1.2.2.2.2.2.2.2.2.2.2.2.2.2.2.2.2.2.2.2.2.2)⟩, MI1_f h.2.1, FV_si rfl (fun _ => by decide +kernel) h.2.2⟩
theorem MIs_f55 {σ : Sg} (h : MI σ) {v : Int32} (h1 : 0 ≤ v.toInt) (h2 : v.toInt ≤ 8) : MI (si σ 74 55 v) := ⟨⟨(by rw [gi_si_ne (Or.inr (by decide +kernel))]; exact h.1.1), (by rw [gi_si_ne (Or.inr (by decide +kernel))]; exact h.1.2.1), (by rw [gi_si_ne (Or.inr (by decide +kernel))]; exact h.1.2.2.1), (by rw [gi_si_ne (Or.inr (by decide +kernel))]; exact h.1.2.2.2.1), (by rw [gi_si_ne (Or.inr (by decide +kernel))]; exact h.1.2.2.2.2.1), (by rw [gi_si_ne (Or.inr (by decide +kernel))]; exact h.1.2.2.2.2.2.1), (by rw [gi_si_ne (Or.inr (by decide +kernel))]; exact h.1.2.2.2.2.2.2.1), (by rw [gi_si_ne (Or.inr (by decide +kernel))]; exact h.1.2.2.2.2.2.2.2.1), (by rw [gi_si_ne (Or.inr (by decide +kernel))]; exact h.1.2.2.2.2.2.2.2.2.1), (by rw [gi_si_ne (Or.inr (by decide +kernel))]; exact h.1.2.2.2.2.2.2.2.2.2.1), (by rw [gi_si_ne (Or.inr (by decide +kernel))]; exact h.1.2.2.2.2.2.2.2.2.2.2.1), (by rw [gi_si_ne (Or.inr (by decide +kernel))]; exact h.1.2.2.2.2.2.2.2.2.2.2.2.1), (by rw [gi_si_ne (Or.inr (by decide +kernel))]; exact h.1.2.2.2.2.2.2.2.2.2.2.2.2.1), (by rw [gi_si_ne (Or.inr (by decide +kernel))]; exact h.1.2.2.2.2.2.2.2.2.2.2.2.2.2.1), (by rw [gi_si_ne (Or.inr (by decide +kernel))]; exact h.1.2.2.2.2.2.2.2.2.2.2.2.2.2.2.1), (by rw [gi_si_ne (Or.inr (by decide +kernel))]; exact h.1.2.2.2.2.2.2.2.2.2.2.2.2.2.2.2.1), (by rw [gi_si_ne (Or.inr (by decide +kernel))]; exact h.1.2.2.2.2.2.2.2.2.2.2.2.2.2.2.2.2.1), (by rw [gi_si_ne (Or.inr (by decide +kernel))]; exact h.1.2.2.2.2.2.2.2.2.2.2.2.2.2.2.2.2.2.1), (by rw [gi_si_ne (Or.inr (by decide +kernel))]; exact h.1.2.2.2.2.2.2.2.2.2.2.2.2.2.2.2.2.2.2.1), (by rw [gi_si_ne (Or.inr (by decide +kernel))]; exact h.1.2.2.2.2.2.2.2.2.2.2.2.2.2.2.2.2.2.2.2.1), (by rw [gi_si_eq]; exact ⟨h1, h2⟩), (by rw [gi_si_ne (Or.inr (by decide +kernel))]; exact h.1.2.2.2.2.2.2.2.2.2.2.2.2.2.2.2.2.2.2.2.2.2)⟩, MI1_f h.2.1, FV_si rfl (fun _ => by decide +kernel) h.2.2⟩
theorem MIs_f69 {σ : Sg} (h : MI σ) {v : Int32} (h1 : 0 ≤ v.toInt) (h2 : v.toInt ≤ 1000) : MI (si σ 74 69 v) := ⟨⟨(by rw [gi_si_ne (Or.inr (by decide +kernel))]; exact h.1.1), (by rw [gi_si_ne (Or.inr (by decide +kernel))]; exact h.1.2.1), (by rw [gi_si_ne (Or.inr (by decide +kernel))]; exact h.1.2.2.1), (by rw [gi_si_ne (Or.inr (by decide +kernel))]; exact h.1.2.2.2.1), (by rw [gi_si_ne (Or.inr (by decide +kernel))]; exact h.1.2.2.2.2.1), (by rw [gi_si_ne (Or.inr (by decide +kernel))]; exact h.1.2.2.2.2.2.1), (by rw [gi_si_ne (Or.inr (by decide +kernel))]; exact h.1.2.2.2.2.2.2.1), (by rw [gi_si_ne (Or.inr (by decide +kernel))]; exact h.1.2.2.2.2.2.2.2.1), (by rw [gi_si_ne (Or.inr (by decide +kernel))]; exact h.1.2.2.2.2.2.2.2.2.1), (by rw [gi_si_ne (Or.inr (by decide +kernel))]; exact h.1.2.2.2.2.2.2.2.2.2.1), (by rw [gi_si_ne (Or.inr (by decide +kernel))]; exact h.1.2.2.2.2.2.2.2.2.2.2.1), (by rw [gi_si_ne (Or.inr (by decide +kernel))]; exact h.1.2.2.2.2.2.2.2.2.2.2.2.1), (by rw [gi_si_ne (Or.inr (by decide +kernel))]; exact h.1.2.2.2.2.2.2.2.2.2.2.2.2.1), (by rw [gi_si_ne (Or.inr (by decide +kernel))]; exact h.1.2.2.2.2.2.2.2.2.2.2.2.2.2.1), (by rw [gi_si_ne (Or.inr (by decide +kernel))]; exact h.1.2.2.2.2.2.2.2.2.2.2.2.2.2.2.1), (by rw [gi_si_ne (Or.inr (by decide +kernel))]; exact h.1.2.2.2.2.2.2.2.2.2.2.2.2.2.2.2.1), (by rw [gi_si_ne (Or.inr (by decide +kernel))]; exact h.1.2.2.2.2.2.2.2.2.2.2.2.2.2.2.2.2.1), (by rw [gi_si_ne (Or.inr (by decide +kernel))]; exact h.1.2.2.2.2.2.2.2.2.2.2.2.2.2.2.2.2.2.1), (by rw [gi_si_ne (Or.inr (by decide +kernel))]; exact h.1.2.2.2.2.2.2.2.2.2.2.2.2.2.2.2.2.2.2.1), (by rw [gi_si_ne (Or.inr (by decide +kernel))]; exact h.1.2.2.2.2.2.2.2.2.2.2.2.2.2.2.2.2.2.2.2.1), (by rw [gi_si_ne (Or.inr (by decide +kernel))]; exact h.1.2.2.2.2.2.2.2.2.2.2.2.2.2.2.2.2.2.2.2.2.1), (by rw [gi_si_eq]; exact ⟨h1, h2⟩)⟩, MI1_f h.2.1, FV_si rfl (fun _ => by decide +kernel) h.2.2⟩
theorem MIs_fu {σ : Sg} (h : MI σ) {k : Nat} {v : Int32} (hk : k ∉ mfL) : MI (si σ 74 k v) := by
  have e : ∀ j, j ∈ mfL → gi (si σ 74 k v) 74 j = gi σ 74 j := fun j hj => gi_si_ne (Or.inr (fun q => hk (q ▸ hj)))
  refine ⟨?_, MI1_f h.2.1, FV_si rfl (fun _ => ⟨fun e => hk (by subst e; decide), fun e => hk (by subst e; decide), fun e => hk (by subst e; decide)⟩) h.2.2⟩
  unfold MI0
  rw [e 0 (by decide +kernel), e 1 (by decide +kernel), e 2 (by decide +kernel), e 11 (by decide +kernel), e 12 (by decide +kernel), e 13 (by decide +kernel), e 14 (by decide +kernel), e 15 (by decide +kernel), e 24 (by decide +kernel), e 25 (by decide +kernel), e 30 (by decide +kernel), e 33 (by decide +kernel), e 41 (by decide +kernel), e 45 (by decide +kernel), e 46 (by decide +kernel), e 50 (by decide +kernel), e 51 (by decide +kernel), e 52 (by decide +kernel), e 53 (by decide +kernel), e 54 (by decide +kernel), e 55 (by decide +kernel), e 69 (by decide +kernel)]
  exact h.1
theorem MIs_a105 {σ : Sg} (h : MI σ) {k : Nat} {v : Int32} (h1 : 0 ≤ v.toInt) (h2 : v.toInt ≤ 9999) : MI (si σ 105 k v) := ⟨h.1, ⟨(by show bnd (va_up σ.1 105 (upd (σ.1 105) k v) 105) _ _ _; rw [va_up_self]; exact bnd_up (h.2.1.1) h1 h2), (by show bnd (va_up σ.1 105 (upd (σ.1 105) k v) 110) _ _ _; rw [va_up_ne _ _ (by decide +kernel)]; exact h.2.1.2.1), (by show bnd (va_up σ.1 105 (upd (σ.1 105) k v) 116) _ _ _; rw [va_up_ne _ _ (by decide +kernel)]; exact h.2.1.2.2.1), (by show bnd (va_up σ.1 105 (upd (σ.1 105) k v) 117) _ _ _; rw [va_up_ne _ _ (by decide +kernel)]; exact h.2.1.2.2.2.1), (by show bnd (va_up σ.1 105 (upd (σ.1 105) k v) 127) _ _ _; rw [va_up_ne _ _ (by decide +kernel)]; exact h.2.1.2.2.2.2.1), (by show bnd (va_up σ.1 105 (upd (σ.1 105) k v) 129) _ _ _; rw [va_up_ne _ _ (by decide +kernel)]; exact h.2.1.2.2.2.2.2.1), (by show bnd (va_up σ.1 105 (upd (σ.1 105) k v) 134) _ _ _; rw [va_up_ne _ _ (by decide +kernel)]; exact h.2.1.2.2.2.2.2.2.1), (by show bnd (va_up σ.1 105 (upd (σ.1 105) k v) 138) _ _ _; rw [va_up_ne _ _ (by decide +kernel)]; exact h.2.1.2.2.2.2.2.2.2.1), (by show bnd (va_up σ.1 105 (upd (σ.1 105) k v) 139) _ _ _; rw [va_up_ne _ _ (by decide +kernel)]; exact h.2.1.2.2.2.2.2.2.2.2.1), (by show bnd (va_up σ.1 105 (upd (σ.1 105) k v) 142) _ _ _; rw [va_up_ne _ _ (by decide +kernel)]; exact h.2.1.2.2.2.2.2.2.2.2.2.1), (by show bnd (va_up σ.1 105 (upd (σ.1 105) k v) 143) _ _ _; rw [va_up_ne _ _ (by decide +kernel)]; exact h.2.1.2.2.2.2.2.2.2.2.2.2.1), (by show bnd (va_up σ.1 105 (upd (σ.1 105) k v) 158) _ _ _; rw [va_up_ne _ _ (by decide +kernel)]; exact h.2.1.2.2.2.2.2.2.2.2.2.2.2.1), (by show bnd (va_up σ.1 105 (upd (σ.1 105) k v) 162) _ _ _; rw [va_up_ne _ _ (by decide +kernel)]; exact h.2.1.2.2.2.2.2.2.2.2.2.2.2.2.1), (by show bnd (va_up σ.1 105 (upd (σ.1 105) k v) 164) _ _ _; rw [va_up_ne _ _ (by decide +kernel)]; exact h.2.1.2.2.2.2.2.2.2.2.2.2.2.2.2.1), (by show bnd (va_up σ.1 105 (upd (σ.1 105) k v) 165) _ _ _; rw [va_up_ne _ _ (by decide +kernel)]; exact h.2.1.2.2.2.2.2.2.2.2.2.2.2.2.2.2.1), (by show bnd (va_up σ.1 105 (upd (σ.1 105) k v) 171) _ _ _; rw [va_up_ne _ _ (by decide +kernel)]; exact h.2.1.2.2.2.2.2.2.2.2.2.2.2.2.2.2.2.1), (by show bnd (va_up σ.1 105 (upd (σ.1 105) k v) 172) _ _ _; rw [va_up_ne _ _ (by decide +kernel)]; exact h.2.1.2.2.2.2.2.2.2.2.2.2.2.2.2.2.2.2)⟩, FV_si rfl (fun e => absurd e (by decide +kernel)) h.2.2⟩
theorem MIs_a110 {σ : Sg} (h : MI σ) {k : Nat} {v : Int32} (h1 : 0 ≤ v.toInt) (h2 : v.toInt ≤ 5) : MI (si σ 110 k v) := ⟨h.1, ⟨(by show bnd (va_up σ.1 110 (upd (σ.1 110) k v) 105) _ _ _; rw [va_up_ne _ _ (by decide +kernel)]; exact h.2.1.1), (by show bnd (va_up σ.1 110 (upd (σ.1 110) k v) 110) _ _ _; rw [va_up_self]; exact bnd_up (h.2.1.2.1) h1 h2), (by show bnd (va_up σ.1 110 (upd (σ.1 110) k v) 116) _ _ _; rw [va_up_ne _ _ (by decide +kernel)]; exact h.2.1.2.2.1), (by show bnd (va_up σ.1 110 (upd (σ.1 110) k v) 117) _ _ _; rw [va_up_ne _ _ (by decide +kernel)]; exact h.2.1.2.2.2.1), (by show bnd (va_up σ.1 110 (upd (σ.1 110) k v) 127) _ _ _; rw [va_up_ne _ _ (by decide +kernel)]; exact h.2.1.2.2.2.2.1), (by show bnd (va_up σ.1 110 (upd (σ.1 110) k v) 129) _ _ _; rw [va_up_ne _ _ (by decide +kernel)]; exact h.2.1.2.2.2.2.2.1), (by show bnd (va_up σ.1 110 (upd (σ.1 110) k v) 134) _ _ _; rw [va_up_ne _ _ (by decide +kernel)]; exact h.2.1.2.2.2.2.2.2.1), (by show bnd (va_up σ.1 110 (upd (σ.1 110) k v) 138) _ _ _; rw [va_up_ne _ _ (by decide +kernel)]; exact h.2.1.2.2.2.2.2.2.2.1), (by show bnd (va_up σ.1 110 (upd (σ.1 110) k v) 139) _ _ _; rw [va_up_ne _ _ (by decide +kernel)]; exact h.2.1.2.2.2.2.2.2.2.2.1), (by show bnd (va_up σ.1 110 (upd (σ.1 110) k v) 142) _ _ _; rw [va_up_ne _ _ (by decide +kernel)]; exact h.2.1.2.2.2.2.2.2.2.2.2.1), (by show bnd (va_up σ.1 110 (upd (σ.1 110) k v) 143) _ _ _; rw [va_up_ne _ _ (by decide +kernel)]; exact h.2.1.2.2.2.2.2.2.2.2.2.2.1), (by show bnd (va_up σ.1 110 (upd (σ.1 110) k v) 158) _ _ _; rw [va_up_ne _ _ (by decide +kernel)]; exact h.2.1.2.2.2.2.2.2.2.2.2.2.2.1), (by show bnd (va_up σ.1 110 (upd (σ.1 110) k v) 162) _ _ _; rw [va_up_ne _ _ (by decide +kernel)]; exact h.2.1.2.2.2.2.2.2.2.2.2.2.2.2.1), (by show bnd (va_up σ.1 110 (upd (σ.1 110) k v) 164) _ _ _; rw [va_up_ne _ _ (by decide +kernel)]; exact h.2.1.2.2.2.2.2.2.2.2.2.2.2.2.2.1), (by show bnd (va_up σ.1 110 (upd (σ.1 110) k v) 165) _ _ _; rw [va_up_ne _ _ (by decide +kernel)]; exact h.2.1.2.2.2.2.2.2.2.2.2.2.2.2.2.2.1), (by show bnd (va_up σ.1 110 (upd (σ.1 110) k v) 171) _ _ _; rw [va_up_ne _ _ (by decide +kernel)]; exact h.2.1.2.2.2.2.2.2.2.2.2.2.2.2.2.2.2.1), (by show bnd (va_up σ.1 110 (upd (σ.1 110) k v) 172) _ _ _; rw [va_up_ne _ _ (by decide +kernel)]; exact h.2.1.2.2.2.2.2.2.2.2.2.2.2.2.2.2.2.2)⟩, FV_si rfl (fun e => absurd e (by decide +kernel)) h.2.2⟩
theorem MIs_a116 {σ : Sg} (h : MI σ) {k : Nat} {v : Int32} (h1 : 0 ≤ v.toInt) (h2 : v.toInt ≤ 127) : MI (si σ 116 k v) := ⟨h.1, ⟨(by show bnd (va_up σ.1 116 (upd (σ.1 116) k v) 105) _ _ _; rw [va_up_ne _ _ (by decide +kernel)]; exact h.2.1.1), (by show bnd (va_up σ.1 116 (upd (σ.1 116) k v) 110) _ _ _; rw [va_up_ne _ _ (by decide +kernel)]; exact h.2.1.2.1), (by show bnd (va_up σ.1 116 (upd (σ.1 116) k v) 116) _ _ _; rw [va_up_self]; exact bnd_up (h.2.1.2.2.1) h1 h2), (by show bnd (va_up σ.1 116 (upd (σ.1 116) k v) 117) _ _ _; rw [va_up_ne _ _ (by decide +kernel)]; exact h.2.1.2.2.2.1), (by show bnd (va_up σ.1 116 (upd (σ.1 116) k v) 127) _ _ _; rw [va_up_ne _ _ (by decide +kernel)]; exact h.2.1.2.2.2.2.1), (by show bnd (va_up σ.1 116 (upd (σ.1 116) k v) 129) _ _ _; rw [va_up_ne _ _ (by decide +kernel)]; exact h.2.1.2.2.2.2.2.1), (by show bnd (va_up σ.1 116 (upd (σ.1 116) k v) 134) _ _ _; rw [va_up_ne _ _ (by decide +kernel)]; exact h.2.1.2.2.2.2.2.2.1), (by show bnd (va_up σ.1 116 (upd (σ.1 116) k v) 138) _ _ _; rw [va_up_ne _ _ (by decide +kernel)]; exact h.2.1.2.2.2.2.2.2.2.1), (by show bnd (va_up σ.1 116 (upd (σ.1 116) k v) 139) _ _ _; rw [va_up_ne _ _ (by decide +kernel)]; exact h.2.1.2.2.2.2.2.2.2.2.1), (by show bnd (va_up σ.1 116 (upd (σ.1 116) k v) 142) _ _ _; rw [va_up_ne _ _ (by decide +kernel)]; exact h.2.1.2.2.2.2.2.2.2.2.2.1), (by show bnd (va_up σ.1 116 (upd (σ.1 116) k v) 143) _ _ _; rw [va_up_ne _ _ (by decide +kernel)]; exact h.2.1.2.2.2.2.2.2.2.2.2.2.1), (by show bnd (va_up σ.1 116 (upd (σ.1 116) k v) 158) _ _ _; rw [va_up_ne _ _ (by decide +kernel)]; exact h.2.1.2.2.2.2.2.2.2.2.2.2.2.1), (by show bnd (va_up σ.1 116 (upd (σ.1 116) k v) 162) _ _ _; rw [va_up_ne _ _ (by decide +kernel)]; exact h.2.1.2.2.2.2.2.2.2.2.2.2.2.2.1), (by show bnd (va_up σ.1 116 (upd (σ.1 116) k v) 164) _ _ _; rw [va_up_ne _ _ (by decide +kernel)]; exact h.2.1.2.2.2.2.2.2.2.2.2.2.2.2.2.1), (by show bnd (va_up σ.1 116 (upd (σ.1 116) k v) 165) _ _ _; rw [va_up_ne _ _ (by decide +kernel)]; exact h.2.1.2.2.2.2.2.2.2.2.2.2.2.2.2.2.1), (by show bnd (va_up σ.1 116 (upd (σ.1 116) k v) 171) _ _ _; rw [va_up_ne _ _ (by decide +kernel)]; exact h.2.1.2.2.2.2.2.2.2.2.2.2.2.2.2.2.2.1), (by show bnd (va_up σ.1 116 (upd (σ.1 116) k v) 172) _ _ _; rw [va_up_ne _ _ (by decide +kernel)]; exact h.2.1.2.2.2.2.2.2.2.2.2.2.2.2.2.2.2.2)⟩, FV_si rfl (fun e => absurd e (by decide +kernel)) h.2.2⟩
theorem MIs_a117 {σ : Sg} (h : MI σ) {k : Nat} {v : Int32} (h1 : 0 ≤ v.toInt) (h2 : v.toInt ≤ 10) (hF : FV (si σ 117 k v)) : MI (si σ 117 k v) := ⟨h.1, ⟨(by show bnd (va_up σ.1 117 (upd (σ.1 117) k v) 105) _ _ _; rw [va_up_ne _ _ (by decide +kernel)]; exact h.2.1.1), (by show bnd (va_up σ.1 117 (upd (σ.1 117) k v) 110) _ _ _; rw [va_up_ne _ _ (by decide +kernel)]; exact h.2.1.2.1), (by show bnd (va_up σ.1 117 (upd (σ.1 117) k v) 116) _ _ _; rw [va_up_ne _ _ (by decide +kernel)]; exact h.2.1.2.2.1), (by show bnd (va_up σ.1 117 (upd (σ.1 117) k v) 117) _ _ _; rw [va_up_self]; exact bnd_up (h.2.1.2.2.2.1) h1 h2), (by show bnd (va_up σ.1 117 (upd (σ.1 117) k v) 127) _ _ _; rw [va_up_ne _ _ (by decide +kernel)]; exact h.2.1.2.2.2.2.1), (by show bnd (va_up σ.1 117 (upd (σ.1 117) k v) 129) _ _ _; rw [va_up_ne _ _ (by decide +kernel)]; exact h.2.1.2.2.2.2.2.1), (by show bnd (va_up σ.1 117 (upd (σ.1 117) k v) 134) _ _ _; rw [va_up_ne _ _ (by decide +kernel)]; exact h.2.1.2.2.2.2.2.2.1), (by show bnd (va_up σ.1 117 (upd (σ.1 117) k v) 138) _ _ _; rw [va_up_ne _ _ (by decide +kernel)]; exact h.2.1.2.2.2.2.2.2.2.1), (by show bnd (va_up σ.1 117 (upd (σ.1 117) k v) 139) _ _ _; rw [va_up_ne _ _ (by decide +kernel)]; exact h.2.1.2.2.2.2.2.2.2.2.1), (by show bnd (va_up σ.1 117 (upd (σ.1 117) k v) 142) _ _ _; rw [va_up_ne _ _ (by decide +kernel)]; exact h.2.1.2.2.2.2.2.2.2.2.2.1), (by show bnd (va_up σ.1 117 (upd (σ.1 117) k v) 143) _ _ _; rw [va_up_ne _ _ (by decide +kernel)]; exact h.2.1.2.2.2.2.2.2.2.2.2.2.1), (by show bnd (va_up σ.1 117 (upd (σ.1 117) k v) 158) _ _ _; rw [va_up_ne _ _ (by decide +kernel)]; exact h.2.1.2.2.2.2.2.2.2.2.2.2.2.1), (by show bnd (va_up σ.1 117 (upd (σ.1 117) k v) 162) _ _ _; rw [va_up_ne _ _ (by decide +kernel)]; exact h.2.1.2.2.2.2.2.2.2.2.2.2.2.2.1), (by show bnd (va_up σ.1 117 (upd (σ.1 117) k v) 164) _ _ _; rw [va_up_ne _ _ (by decide +kernel)]; exact h.2.1.2.2.2.2.2.2.2.2.2.2.2.2.2.1), (by show bnd (va_up σ.1 117 (upd (σ.1 117) k v) 165) _ _ _; rw [va_up_ne _ _ (by decide +kernel)]; exact h.2.1.2.2.2.2.2.2.2.2.2.2.2.2.2.2.1), (by show bnd (va_up σ.1 117 (upd (σ.1 117) k v) 171) _ _ _; rw [va_up_ne _ _ (by decide +kernel)]; exact h.2.1.2.2.2.2.2.2.2.2.2.2.2.2.2.2.2.1), (by show bnd (va_up σ.1 117 (upd (σ.1 117) k v) 172) _ _ _; rw [va_up_ne _ _ (by decide +kernel)]; exact h.2.1.2.2.2.2.2.2.2.2.2.2.2.2.2.2.2.2)⟩, hF⟩
theorem MIs_a129 {σ : Sg} (h : MI σ) {k : Nat} {v : Int32} (h1 : 0 ≤ v.toInt) (h2 : v.toInt ≤ 1) : MI (si σ 129 k v) := ⟨h.1, ⟨(by show bnd (va_up σ.1 129 (upd (σ.1 129) k v) 105) _ _ _; rw [va_up_ne _ _ (by decide +kernel)]; exact h.2.1.1), (by show bnd (va_up σ.1 129 (upd (σ.1 129) k v) 110) _ _ _; rw [va_up_ne _ _ (by decide +kernel)]; exact h.2.1.2.1), (by show bnd (va_up σ.1 129 (upd (σ.1 129) k v) 116) _ _ _; rw [va_up_ne _ _ (by decide +kernel)]; exact h.2.1.2.2.1), (by show bnd (va_up σ.1 129 (upd (σ.1 129) k v) 117) _ _ _; rw [va_up_ne _ _ (by decide +kernel)]; exact h.2.1.2.2.2.1), (by show bnd (va_up σ.1 129 (upd (σ.1 129) k v) 127) _ _ _; rw [va_up_ne _ _ (by decide +kernel)]; exact h.2.1.2.2.2.2.1), (by show bnd (va_up σ.1 129 (upd (σ.1 129) k v) 129) _ _ _; rw [va_up_self]; exact bnd_up (h.2.1.2.2.2.2.2.1) h1 h2), (by show bnd (va_up σ.1 129 (upd (σ.1 129) k v) 134) _ _ _; rw [va_up_ne _ _ (by decide +kernel)]; exact h.2.1.2.2.2.2.2.2.1), (by show bnd (va_up σ.1 129 (upd (σ.1 129) k v) 138) _ _ _; rw [va_up_ne _ _ (by decide +kernel)]; exact h.2.1.2.2.2.2.2.2.2.1), (by show bnd (va_up σ.1 129 (upd (σ.1 129) k v) 139) _ _ _; rw [va_up_ne _ _ (by decide +kernel)]; exact h.2.1.2.2.2.2.2.2.2.2.1), (by show bnd (va_up σ.1 129 (upd (σ.1 129) k v) 142) _ _ _; rw [va_up_ne _ _ (by decide +kernel)]; exact h.2.1.2.2.2.2.2.2.2.2.2.1), (by show bnd (va_up σ.1 129 (upd (σ.1 129) k v) 143) _ _ _; rw [va_up_ne _ _ (by decide +kernel)]; exact h.2.1.2.2.2.2.2.2.2.2.2.2.1), (by show bnd (va_up σ.1 129 (upd (σ.1 129) k v) 158) _ _ _; rw [va_up_ne _ _ (by decide +kernel)]; exact h.2.1.2.2.2.2.2.2.2.2.2.2.2.1), (by show bnd (va_up σ.1 129 (upd (σ.1 129) k v) 162) _ _ _; rw [va_up_ne _ _ (by decide +kernel)]; exact h.2.1.2.2.2.2.2.2.2.2.2.2.2.2.1), (by show bnd (va_up σ.1 129 (upd (σ.1 129) k v) 164) _ _ _; rw [va_up_ne _ _ (by decide +kernel)]; exact h.2.1.2.2.2.2.2.2.2.2.2.2.2.2.2.1), (by show bnd (va_up σ.1 129 (upd (σ.1 129) k v) 165) _ _ _; rw [va_up_ne _ _ (by decide +kernel)]; exact h.2.1.2.2.2.2.2.2.2.2.2.2.2.2.2.2.1), (by show bnd (va_up σ.1 129 (upd (σ.1 129) k v) 171) _ _ _; rw [va_up_ne _ _ (by decide +kernel)]; exact h.2.1.2.2.2.2.2.2.2.2.2.2.2.2.2.2.2.1), (by show bnd (va_up σ.1 129 (upd (σ.1 129) k v) 172) _ _ _; rw [va_up_ne _ _ (by decide +kernel)]; exact h.2.1.2.2.2.2.2.2.2.2.2.2.2.2.2.2.2.2)⟩, FV_si rfl (fun e => absurd e (by decide +kernel)) h.2.2⟩
theorem MIs_a134 {σ : Sg} (h : MI σ) {k : Nat} {v : Int32} (h1 : 0 ≤ v.toInt) (h2 : v.toInt ≤ 9999) : MI (si σ 134 k v) := ⟨h.1, ⟨(by show bnd (va_up σ.1 134 (upd (σ.1 134) k v) 105) _ _ _; rw [va_up_ne _ _ (by decide +kernel)]; exact h.2.1.1), (by show bnd (va_up σ.1 134 (upd (σ.1 134) k v) 110) _ _ _; rw [va_up_ne _ _ (by decide +kernel)]; exact h.2.1.2.1), (by show bnd (va_up σ.1 134 (upd (σ.1 134) k v) 116) _ _ _; rw [va_up_ne _ _ (by decide +kernel)]; exact h.2.1.2.2.1), (by show bnd (va_up σ.1 134 (upd (σ.1 134) k v) 117) _ _ _; rw [va_up_ne _ _ (by decide +kernel)]; exact h.2.1.2.2.2.1), (by show bnd (va_up σ.1 134 (upd (σ.1 134) k v) 127) _ _ _; rw [va_up_ne _ _ (by decide +kernel)]; exact h.2.1.2.2.2.2.1), (by show bnd (va_up σ.1 134 (upd (σ.1 134) k v) 129) _ _ _; rw [va_up_ne _ _ (by decide +kernel)]; exact h.2.1.2.2.2.2.2.1), (by show bnd (va_up σ.1 134 (upd (σ.1 134) k v) 134) _ _ _; rw [va_up_self]; exact bnd_up (h.2.1.2.2.2.2.2.2.1) h1 h2), (by show bnd (va_up σ.1 134 (upd (σ.1 134) k v) 138) _ _ _; rw [va_up_ne _ _ (by decide +kernel)]; exact h.2.1.2.2.2.2.2.2.2.1), (by show bnd (va_up σ.1 134 (upd (σ.1 134) k v) 139) _ _ _; rw [va_up_ne _ _ (by decide +kernel)]; exact h.2.1.2.2.2.2.2.2.2.2.1), (by show bnd (va_up σ.1 134 (upd (σ.1 134) k v) 142) _ _ _; rw [va_up_ne _ _ (by decide +kernel)]; exact h.2.1.2.2.2.2.2.2.2.2.2.1), (by show bnd (va_up σ.1 134 (upd (σ.1 134) k v) 143) _ _ _; rw [va_up_ne _ _ (by decide +kernel)]; exact h.2.1.2.2.2.2.2.2.2.2.2.2.1), (by show bnd (va_up σ.1 134 (upd (σ.1 134) k v) 158) _ _ _; rw [va_up_ne _ _ (by decide +kernel)]; exact h.2.1.2.2.2.2.2.2.2.2.2.2.2.1), (by show bnd (va_up σ.1 134 (upd (σ.1 134) k v) 162) _ _ _; rw [va_up_ne _ _ (by decide +kernel)]; exact h.2.1.2.2.2.2.2.2.2.2.2.2.2.2.1), (by show bnd (va_up σ.1 134 (upd (σ.1 134) k v) 164) _ _ _; rw [va_up_ne _ _ (by decide +kernel)]; exact h.2.1.2.2.2.2.2.2.2.2.2.2.2.2.2.1), (by show bnd (va_up σ.1 134 (upd (σ.1 134) k v) 165) _ _ _; rw [va_up_ne _ _ (by decide +kernel)]; exact h.2.1.2.2.2.2.2.2.2.2.2.2.2.2.2.2.1), (by show bnd (va_up σ.1 134 (upd (σ.1 134) k v) 171) _ _ _; rw [va_up_ne _ _ (by decide +kernel)]; exact h.2.1.2.2.2.2.2.2.2.2.2.2.2.2.2.2.2.1), (by show bnd (va_up σ.1 134 (upd (σ.1 134) k v) 172) _ _ _; rw [va_up_ne _ _ (by decide +kernel)]; exact h.2.1.2.2.2.2.2.2.2.2.2.2.2.2.2.2.2.2)⟩, FV_si rfl (fun e => absurd e (by decide +kernel)) h.2.2⟩
theorem MIs_a138 {σ : Sg} (h : MI σ) {k : Nat} {v : Int32} (h1 : 0 ≤ v.toInt) (h2 : v.toInt ≤ 5) : MI (si σ 138 k v) := ⟨h.1, ⟨(by show bnd (va_up σ.1 138 (upd (σ.1 138) k v) 105) _ _ _; rw [va_up_ne _ _ (by decide +kernel)]; exact h.2.1.1), (by show bnd (va_up σ.1 138 (upd (σ.1 138) k v) 110) _ _ _; rw [va_up_ne _ _ (by decide +kernel)]; exact h.2.1.2.1), (by show bnd (va_up σ.1 138 (upd (σ.1 138) k v) 116) _ _ _; rw [va_up_ne _ _ (by decide +kernel)]; exact h.2.1.2.2.1), (by show bnd (va_up σ.1 138 (upd (σ.1 138) k v) 117) _ _ _; rw [va_up_ne _ _ (by decide +kernel)]; exact h.2.1.2.2.2.1), (by show bnd (va_up σ.1 138 (upd (σ.1 138) k v) 127) _ _ _; rw [va_up_ne _ _ (by decide +kernel)]; exact h.2.1.2.2.2.2.1), (by show bnd (va_up σ.1 138 (upd (σ.1 138) k v) 129) _ _ _; rw [va_up_ne _ _ (by decide +kernel)]; exact h.2.1.2.2.2.2.2.1), (by show bnd (va_up σ.1 138 (upd (σ.1 138) k v) 134) _ _ _; rw [va_up_ne _ _ (by decide +kernel)]; exact h.2.1.2.2.2.2.2.2.1), (by show bnd (va_up σ.1 138 (upd (σ.1 138) k v) 138) _ _ _; rw [va_up_self]; exact bnd_up (h.2.1.2.2.2.2.2.2.2.1) h1 h2), (by show bnd (va_up σ.1 138 (upd (σ.1 138) k v) 139) _ _ _; rw [va_up_ne _ _ (by decide +kernel)]; exact h.2.1.2.2.2.2.2.2.2.2.1), (by show bnd (va_up σ.1 138 (upd (σ.1 138) k v) 142) _ _ _; rw [va_up_ne _ _ (by decide +kernel)]; exact h.2.1.2.2.2.2.2.2.2.2.2.1), (by show bnd (va_up σ.1 138 (upd (σ.1 138) k v) 143) _ _ _; rw [va_up_ne _ _ (by decide +kernel)]; exact h.2.1.2.2.2.2.2.2.2.2.2.2.1), (by show bnd (va_up σ.1 138 (upd (σ.1 138) k v) 158) _ _ _; rw [va_up_ne _ _ (by decide +kernel)]; exact h.2.1.2.2.2.2.2.2.2.2.2.2.2.1), (by show bnd (va_up σ.1 138 (upd (σ.1 138) k v) 162) _ _ _; rw [va_up_ne _ _ (by decide +kernel)]; exact h.2.1.2.2.2.2.2.2.2.2.2.2.2.2.1), (by show bnd (va_up σ.1 138 (upd (σ.1 138) k v) 164) _ _ _; rw [va_up_ne _ _ (by decide +kernel)]; exact h.2.1.2.2.2.2.2.2.2.2.2.2.2.2.2.1), (by show bnd (va_up σ.1 138 (upd (σ.1 138) k v) 165) _ _ _; rw [va_up_ne _ _ (by decide +kernel)]; exact h.2.1.2.2.2.2.2.2.2.2.2.2.2.2.2.2.1), (by show bnd (va_up σ.1 138 (upd (σ.1 138) k v) 171) _ _ _; rw [va_up_ne _ _ (by decide +kernel)]; exact h.2.1.2.2.2.2.2.2.2.2.2.2.2.2.2.2.2.1), (by show bnd (va_up σ.1 138 (upd (σ.1 138) k v) 172) _ _ _; rw [va_up_ne _ _ (by decide +kernel)]; exact h.2.1.2.2.2.2.2.2.2.2.2.2.2.2.2.2.2.2)⟩, FV_si rfl (fun e => absurd e (by decide +kernel)) h.2.2⟩
theorem MIs_a139 {σ : Sg} (h : MI σ) {k : Nat} {v : Int32} (h1 : 0 ≤ v.toInt) (h2 : v.toInt ≤ 5) : MI (si σ 139 k v) := ⟨h.1, ⟨(by show bnd (va_up σ.1 139 (upd (σ.1 139) k v) 105) _ _ _; rw [va_up_ne _ _ (by decide +kernel)]; exact h.2.1.1), (by show bnd (va_up σ.1 139 (upd (σ.1 139) k v) 110) _ _ _; rw [va_up_ne _ _ (by decide +kernel)]; exact h.2.1.2.1), (by show bnd (va_up σ.1 139 (upd (σ.1 139) k v) 116) _ _ _; rw [va_up_ne _ _ (by decide +kernel)]; exact h.2.1.2.2.1), (by show bnd (va_up σ.1 139 (upd (σ.1 139) k v) 117) _ _ _; rw [va_up_ne _ _ (by decide +kernel)]; exact h.2.1.2.2.2.1), (by show bnd (va_up σ.1 139 (upd (σ.1 139) k v) 127) _ _ _; rw [va_up_ne _ _ (by decide +kernel)]; exact h.2.1.2.2.2.2.1), (by show bnd (va_up σ.1 139 (upd (σ.1 139) k v) 129) _ _ _; rw [va_up_ne _ _ (by decide +kernel)]; exact h.2.1.2.2.2.2.2.1), (by show bnd (va_up σ.1 139 (upd (σ.1 139) k v) 134) _ _ _; rw [va_up_ne _ _ (by decide +kernel)]; exact h.2.1.2.2.2.2.2.2.1), (by show bnd (va_up σ.1 139 (upd (σ.1 139) k v) 138) _ _ _; rw [va_up_ne _ _ (by decide +kernel)]; exact h.2.1.2.2.2.2.2.2.2.1), (by show bnd (va_up σ.1 139 (upd (σ.1 139) k v) 139) _ _ _; rw [va_up_self]; exact bnd_up (h.2.1.2.2.2.2.2.2.2.2.1) h1 h2), (by show bnd (va_up σ.1 139 (upd (σ.1 139) k v) 142) _ _ _; rw [va_up_ne _ _ (by decide +kernel)]; exact h.2.1.2.2.2.2.2.2.2.2.2.1), (by show bnd (va_up σ.1 139 (upd (σ.1 139) k v) 143) _ _ _; rw [va_up_ne _ _ (by decide +kernel)]; exact h.2.1.2.2.2.2.2.2.2.2.2.2.1), (by show bnd (va_up σ.1 139 (upd (σ.1 139) k v) 158) _ _ _; rw [va_up_ne _ _ (by decide +kernel)]; exact h.2.1.2.2.2.2.2.2.2.2.2.2.2.1), (by show bnd (va_up σ.1 139 (upd (σ.1 139) k v) 162) _ _ _; rw [va_up_ne _ _ (by decide +kernel)]; exact h.2.1.2.2.2.2.2.2.2.2.2.2.2.2.1), (by show bnd (va_up σ.1 139 (upd (σ.1 139) k v) 164) _ _ _; rw [va_up_ne _ _ (by decide +kernel)]; exact h.2.1.2.2.2.2.2.2.2.2.2.2.2.2.2.1), (by show bnd (va_up σ.1 139 (upd (σ.1 139) k v) 165) _ _ _; rw [va_up_ne _ _ (by decide +kernel)]; exact h.2.1.2.2.2.2.2.2.2.2.2.2.2.2.2.2.1), (by show bnd (va_up σ.1 139 (upd (σ.1 139) k v) 171) _ _ _; rw [va_up_ne _ _ (by decide +kernel)]; exact h.2.1.2.2.2.2.2.2.2.2.2.2.2.2.2.2.2.1), (by show bnd (va_up σ.1 139 (upd (σ.1 139) k v) 172) _ _ _; rw [va_up_ne _ _ (by decide +kernel)]; exact h.2.1.2.2.2.2.2.2.2.2.2.2.2.2.2.2.2.2)⟩, FV_si rfl (fun e => absurd e (by decide +kernel)) h.2.2⟩
theorem MIs_a142 {σ : Sg} (h : MI σ) {k : Nat} {v : Int32} (h1 : 0 ≤ v.toInt) (h2 : v.toInt ≤ 5) : MI (si σ 142 k v) := ⟨h.1, ⟨(by show bnd (va_up σ.1 142 (upd (σ.1 142) k v) 105) _ _ _; rw [va_up_ne _ _ (by decide +kernel)]; exact h.2.1.1), (by show bnd (va_up σ.1 142 (upd (σ.1 142) k v) 110) _ _ _; rw [va_up_ne _ _ (by decide +kernel)]; exact h.2.1.2.1), (by show bnd (va_up σ.1 142 (upd (σ.1 142) k v) 116) _ _ _; rw [va_up_ne _ _ (by decide +kernel)]; exact h.2.1.2.2.1), (by show bnd (va_up σ.1 142 (upd (σ.1 142) k v) 117) _ _ _; rw [va_up_ne _ _ (by decide +kernel)]; exact h.2.1.2.2.2.1), (by show bnd (va_up σ.1 142 (upd (σ.1 142) k v) 127) _ _ _; rw [va_up_ne _ _ (by decide +kernel)]; exact h.2.1.2.2.2.2.1), (by show bnd (va_up σ.1 142 (upd (σ.1 142) k v) 129) _ _ _; rw [va_up_ne _ _ (by decide +kernel)]; exact h.2.1.2.2.2.2.2.1), (by show bnd (va_up σ.1 142 (upd (σ.1 142) k v) 134) _ _ _; rw [va_up_ne _ _ (by decide +kernel)]; exact h.2.1.2.2.2.2.2.2.1), (by show bnd (va_up σ.1 142 (upd (σ.1 142) k v) 138) _ _ _; rw [va_up_ne _ _ (by decide +kernel)]; exact h.2.1.2.2.2.2.2.2.2.1), (by show bnd (va_up σ.1 142 (upd (σ.1 142) k v) 139) _ _ _; rw [va_up_ne _ _ (by decide +kernel)]; exact h.2.1.2.2.2.2.2.2.2.2.1), (by show bnd (va_up σ.1 142 (upd (σ.1 142) k v) 142) _ _ _; rw [va_up_self]; exact bnd_up (h.2.1.2.2.2.2.2.2.2.2.2.1) h1 h2), (by show bnd (va_up σ.1 142 (upd (σ.1 142) k v) 143) _ _ _; rw [va_up_ne _ _ (by decide +kernel)]; exact h.2.1.2.2.2.2.2.2.2.2.2.2.1), (by show bnd (va_up σ.1 142 (upd (σ.1 142) k v) 158) _ _ _; rw [va_up_ne _ _ (by decide +kernel)]; exact h.2.1.2.2.2.2.2.2.2.2.2.2.2.1), (by show bnd (va_up σ.1 142 (upd (σ.1 142) k v) 162) _ _ _; rw [va_up_ne _ _ (by decide +kernel)]; exact h.2.1.2.2.2.2.2.2.2.2.2.2.2.2.1), (by show bnd (va_up σ.1 142 (upd (σ.1 142) k v) 164) _ _ _; rw [va_up_ne _ _ (by decide +kernel)]; exact h.2.1.2.2.2.2.2.2.2.2.2.2.2.2.2.1), (by show bnd (va_up σ.1 142 (upd (σ.1 142) k v) 165) _ _ _; rw [va_up_ne _ _ (by decide +kernel)]; exact h.2.1.2.2.2.2.2.2.2.2.2.2.2.2.2.2.1), (by show bnd (va_up σ.1 142 (upd (σ.1 142) k v) 171) _ _ _; rw [va_up_ne _ _ (by decide +kernel)]; exact h.2.1.2.2.2.2.2.2.2.2.2.2.2.2.2.2.2.1), (by show bnd (va_up σ.1 142 (upd (σ.1 142) k v) 172) _ _ _; rw [va_up_ne _ _ (by decide +kernel)]; exact h.2.1.2.2.2.2.2.2.2.2.2.2.2.2.2.2.2.2)⟩, FV_si rfl (fun e => absurd e (by decide +kernel)) h.2.2⟩
theorem MIs_a143 {σ : Sg} (h : MI σ) {k : Nat} {v : Int32} (h1 : 0 ≤ v.toInt) (h2 : v.toInt ≤ 30) : MI (si σ 143 k v) := ⟨h.1, ⟨(by show bnd (va_up σ.1 143 (upd (σ.1 143) k v) 105) _ _ _; rw [va_up_ne _ _ (by decide +kernel)]; exact h.2.1.1), (by show bnd (va_up σ.1 143 (upd (σ.1 143) k v) 110) _ _ _; rw [va_up_ne _ _ (by decide +kernel)]; exact h.2.1.2.1), (by show bnd (va_up σ.1 143 (upd (σ.1 143) k v) 116) _ _ _; rw [va_up_ne _ _ (by decide +kernel)]; exact h.2.1.2.2.1), (by show bnd (va_up σ.1 143 (upd (σ.1 143) k v) 117) _ _ _; rw [va_up_ne _ _ (by decide +kernel)]; exact h.2.1.2.2.2.1), (by show bnd (va_up σ.1 143 (upd (σ.1 143) k v) 127) _ _ _; rw [va_up_ne _ _ (by decide +kernel)]; exact h.2.1.2.2.2.2.1), (by show bnd (va_up σ.1 143 (upd (σ.1 143) k v) 129) _ _ _; rw [va_up_ne _ _ (by decide +kernel)]; exact h.2.1.2.2.2.2.2.1), (by show bnd (va_up σ.1 143 (upd (σ.1 143) k v) 134) _ _ _; rw [va_up_ne _ _ (by decide +kernel)]; exact h.2.1.2.2.2.2.2.2.1), (by show bnd (va_up σ.1 143 (upd (σ.1 143) k v) 138) _ _ _; rw [va_up_ne _ _ (by decide +kernel)]; exact h.2.1.2.2.2.2.2.2.2.1), (by show bnd (va_up σ.1 143 (upd (σ.1 143) k v) 139) _ _ _; rw [va_up_ne _ _ (by decide +kernel)]; exact h.2.1.2.2.2.2.2.2.2.2.1), (by show bnd (va_up σ.1 143 (upd (σ.1 143) k v) 142) _ _ _; rw [va_up_ne _ _ (by decide +kernel)]; exact h.2.1.2.2.2.2.2.2.2.2.2.1), (by show bnd (va_up σ.1 143 (upd (σ.1 143) k v) 143) _ _ _; rw [va_up_self]; exact bnd_up (h.2.1.2.2.2.2.2.2.2.2.2.2.1) h1 h2), (by show bnd (va_up σ.1 143 (upd (σ.1 143) k v) 158) _ _ _; rw [va_up_ne _ _ (by decide +kernel)]; exact h.2.1.2.2.2.2.2.2.2.2.2.2.2.1), (by show bnd (va_up σ.1 143 (upd (σ.1 143) k v) 162) _ _ _; rw [va_up_ne _ _ (by decide +kernel)]; exact h.2.1.2.2.2.2.2.2.2.2.2.2.2.2.1), (by show bnd (va_up σ.1 143 (upd (σ.1 143) k v) 164) _ _ _; rw [va_up_ne _ _ (by decide +kernel)]; exact h.2.1.2.2.2.2.2.2.2.2.2.2.2.2.2.1), (by show bnd (va_up σ.1 143 (upd (σ.1 143) k v) 165) _ _ _; rw [va_up_ne _ _ (by decide +kernel)]; exact h.2.1.2.2.2.2.2.2.2.2.2.2.2.2.2.2.1), (by show bnd (va_up σ.1 143 (upd (σ.1 143) k v) 171) _ _ _; rw [va_up_ne _ _ (by decide +kernel)]; exact h.2.1.2.2.2.2.2.2.2.2.2.2.2.2.2.2.2.1), (by show bnd (va_up σ.1 143 (upd (σ.1 143) k v) 172) _ _ _; rw [va_up_ne _ _ (by decide +kernel)]; exact h.2.1.2.2.2.2.2.2.2.2.2.2.2.2.2.2.2.2)⟩, FV_si rfl (fun e => absurd e (by decide +kernel)) h.2.2⟩
theorem MIs_a158 {σ : Sg} (h : MI σ) {k : Nat} {v : Int32} (h1 : 0 ≤ v.toInt) (h2 : v.toInt ≤ 9999) : MI (si σ 158 k v) := ⟨h.1, ⟨(by show bnd (va_up σ.1 158 (upd (σ.1 158) k v) 105) _ _ _; rw [va_up_ne _ _ (by decide +kernel)]; exact h.2.1.1), (by show bnd (va_up σ.1 158 (upd (σ.1 158) k v) 110) _ _ _; rw [va_up_ne _ _ (by decide +kernel)]; exact h.2.1.2.1), (by show bnd (va_up σ.1 158 (upd (σ.1 158) k v) 116) _ _ _; rw [va_up_ne _ _ (by decide +kernel)]; exact h.2.1.2.2.1), (by show bnd (va_up σ.1 158 (upd (σ.1 158) k v) 117) _ _ _; rw [va_up_ne _ _ (by decide +kernel)]; exact h.2.1.2.2.2.1), (by show bnd (va_up σ.1 158 (upd (σ.1 158) k v) 127) _ _ _; rw [va_up_ne _ _ (by decide +kernel)]; exact h.2.1.2.2.2.2.1), (by show bnd (va_up σ.1 158 (upd (σ.1 158) k v) 129) _ _ _; rw [va_up_ne _ _ (by decide +kernel)]; exact h.2.1.2.2.2.2.2.1), (by show bnd (va_up σ.1 158 (upd (σ.1 158) k v) 134) _ _ _; rw [va_up_ne _ _ (by decide +kernel)]; exact h.2.1.2.2.2.2.2.2.1), (by show bnd (va_up σ.1 158 (upd (σ.1 158) k v) 138) _ _ _; rw [va_up_ne _ _ (by decide +kernel)]; exact h.2.1.2.2.2.2.2.2.2.1), (by show bnd (va_up σ.1 158 (upd (σ.1 158) k v) 139) _ _ _; rw [va_up_ne _ _ (by decide +kernel)]; exact h.2.1.2.2.2.2.2.2.2.2.1), (by show bnd (va_up σ.1 158 (upd (σ.1 158) k v) 142) _ _ _; rw [va_up_ne _ _ (by decide +kernel)]; exact h.2.1.2.2.2.2.2.2.2.2.2.1), (by show bnd (va_up σ.1 158 (upd (σ.1 158) k v) 143) _ _ _; rw [va_up_ne _ _ (by decide +kernel)]; exact h.2.1.2.2.2.2.2.2.2.2.2.2.1), (by show bnd (va_up σ.1 158 (upd (σ.1 158) k v) 158) _ _ _; rw [va_up_self]; exact bnd_up (h.2.1.2.2.2.2.2.2.2.2.2.2.2.1) h1 h2), (by show bnd (va_up σ.1 158 (upd (σ.1 158) k v) 162) _ _ _; rw [va_up_ne _ _ (by decide +kernel)]; exact h.2.1.2.2.2.2.2.2.2.2.2.2.2.2.1), (by show bnd (va_up σ.1 158 (upd (σ.1 158) k v) 164) _ _ _; rw [va_up_ne _ _ (by decide +kernel)]; exact h.2.1.2.2.2.2.2.2.2.2.2.2.2.2.2.1), (by show bnd (va_up σ.1 158 (upd (σ.1 158) k v) 165) _ _ _; rw [va_up_ne _ _ (by decide +kernel)]; exact h.2.1.2.2.2.2.2.2.2.2.2.2.2.2.2.2.1), (by show bnd (va_up σ.1 158 (upd (σ.1 158) k v) 171) _ _ _; rw [va_up_ne _ _ (by decide +kernel)]; exact h.2.1.2.2.2.2.2.2.2.2.2.2.2.2.2.2.2.1), (by show bnd (va_up σ.1 158 (upd (σ.1 158) k v) 172) _ _ _; rw [va_up_ne _ _ (by decide +kernel)]; exact h.2.1.2.2.2.2.2.2.2.2.2.2.2.2.2.2.2.2)⟩, FV_si rfl (fun e => absurd e (by decide +kernel)) h.2.2⟩
theorem MIs_a162 {σ : Sg} (h : MI σ) {k : Nat} {v : Int32} (h1 : 0 ≤ v.toInt) (h2 : v.toInt ≤ 5) : MI (si σ 162 k v) := ⟨h.1, ⟨(by show bnd (va_up σ.1 162 (upd (σ.1 162) k v) 105) _ _ _; rw [va_up_ne _ _ (by decide +kernel)]; exact h.2.1.1), (by show bnd (va_up σ.1 162 (upd (σ.1 162) k v) 110) _ _ _; rw [va_up_ne _ _ (by decide +kernel)]; exact h.2.1.2.1), (by show bnd (va_up σ.1 162 (upd (σ.1 162) k v) 116) _ _ _; rw [va_up_ne _ _ (by decide +kernel)]; exact h.2.1.2.2.1), (by show bnd (va_up σ.1 162 (upd (σ.1 162) k v) 117) _ _ _; rw [va_up_ne _ _ (by decide +kernel)]; exact h.2.1.2.2.2.1), (by show bnd (va_up σ.1 162 (upd (σ.1 162) k v) 127) _ _ _; rw [va_up_ne _ _ (by decide +kernel)]; exact h.2.1.2.2.2.2.1), (by show bnd (va_up σ.1 162 (upd (σ.1 162) k v) 129) _ _ _; rw [va_up_ne _ _ (by decide +kernel)]; exact h.2.1.2.2.2.2.2.1), (by show bnd (va_up σ.1 162 (upd (σ.1 162) k v) 134) _ _ _; rw [va_up_ne _ _ (by decide +kernel)]; exact h.2.1.2.2.2.2.2.2.1), (by show bnd (va_up σ.1 162 (upd (σ.1 162) k v) 138) _ _ _; rw [va_up_ne _ _ (by decide +kernel)]; exact h.2.1.2.2.2.2.2.2.2.1), (by show bnd (va_up σ.1 162 (upd (σ.1 162) k v) 139) _ _ _; rw [va_up_ne _ _ (by decide +kernel)]; exact h.2.1.2.2.2.2.2.2.2.2.1), (by show bnd (va_up σ.1 162 (upd (σ.1 162) k v) 142) _ _ _; rw [va_up_ne _ _ (by decide +kernel)]; exact h.2.1.2.2.2.2.2.2.2.2.2.1), (by show bnd (va_up σ.1 162 (upd (σ.1 162) k v) 143) _ _ _; rw [va_up_ne _ _ (by decide +kernel)]; exact h.2.1.2.2.2.2.2.2.2.2.2.2.1), (by show bnd (va_up σ.1 162 (upd (σ.1 162) k v) 158) _ _ _; rw [va_up_ne _ _ (by decide +kernel)]; exact h.2.1.2.2.2.2.2.2.2.2.2.2.2.1), (by show bnd (va_up σ.1 162 (upd (σ.1 162) k v) 162) _ _ _; rw [va_up_self]; exact bnd_up (h.2.1.2.2.2.2.2.2.2.2.2.2.2.2.1) h1 h2), (by show bnd (va_up σ.1 162 (upd (σ.1 162) k v) 164) _ _ _; rw [va_up_ne _ _ (by decide +kernel)]; exact h.2.1.2.2.2.2.2.2.2.2.2.2.2.2.2.1), (by show bnd (va_up σ.1 162 (upd (σ.1 162) k v) 165) _ _ _; rw [va_up_ne _ _ (by decide +kernel)]; exact h.2.1.2.2.2.2.2.2.2.2.2.2.2.2.2.2.1), (by show bnd (va_up σ.1 162 (upd (σ.1 162) k v) 171) _ _ _; rw [va_up_ne _ _ (by decide +kernel)]; exact h.2.1.2.2.2.2.2.2.2.2.2.2.2.2.2.2.2.1), (by show bnd (va_up σ.1 162 (upd (σ.1 162) k v) 172) _ _ _; rw [va_up_ne _ _ (by decide +kernel)]; exact h.2.1.2.2.2.2.2.2.2.2.2.2.2.2.2.2.2.2)⟩, FV_si rfl (fun e => absurd e (by decide +kernel)) h.2.2⟩
theorem MIs_a164 {σ : Sg} (h : MI σ) {k : Nat} {v : Int32} (h1 : 0 ≤ v.toInt) (h2 : v.toInt ≤ 5) : MI (si σ 164 k v) := ⟨h.1, ⟨(by show bnd (va_up σ.1 164 (upd (σ.1 164) k v) 105) _ _ _; rw [va_up_ne _ _ (by decide +kernel)]; exact h.2.1.1), (by show bnd (va_up σ.1 164 (upd (σ.1 164) k v) 110) _ _ _; rw [va_up_ne _ _ (by decide +kernel)]; exact h.2.1.2.1), (by show bnd (va_up σ.1 164 (upd (σ.1 164) k v) 116) _ _ _; rw [va_up_ne _ _ (by decide +kernel)]; exact h.2.1.2.2.1), (by show bnd (va_up σ.1 164 (upd (σ.1 164) k v) 117) _ _ _; rw [va_up_ne _ _ (by decide +kernel)]; exact h.2.1.2.2.2.1), (by show bnd (va_up σ.1 164 (upd (σ.1 164) k v) 127) _ _ _; rw [va_up_ne _ _ (by decide +kernel)]; exact h.2.1.2.2.2.2.1), (by show bnd (va_up σ.1 164 (upd (σ.1 164) k v) 129) _ _ _; rw [va_up_ne _ _ (by decide +kernel)]; exact h.2.1.2.2.2.2.2.1), (by show bnd (va_up σ.1 164 (upd (σ.1 164) k v) 134) _ _ _; rw [va_up_ne _ _ (by decide +kernel)]; exact h.2.1.2.2.2.2.2.2.1), (by show bnd (va_up σ.1 164 (upd (σ.1 164) k v) 138) _ _ _; rw [va_up_ne _ _ (by decide +kernel)]; exact h.2.1.2.2.2.2.2.2.2.1), (by show bnd (va_up σ.1 164 (upd (σ.1 164) k v) 139) _ _ _; rw [va_up_ne _ _ (by decide +kernel)]; exact h.2.1.2.2.2.2.2.2.2.2.1), (by show bnd (va_up σ.1 164 (upd (σ.1 164) k v) 142) _ _ _; rw [va_up_ne _ _ (by decide +kernel)]; exact h.2.1.2.2.2.2.2.2.2.2.2.1), (by show bnd (va_up σ.1 164 (upd (σ.1 164) k v) 143) _ _ _; rw [va_up_ne _ _ (by decide +kernel)]; exact h.2.1.2.2.2.2.2.2.2.2.2.2.1), (by show bnd (va_up σ.1 164 (upd (σ.1 164) k v) 158) _ _ _; rw [va_up_ne _ _ (by decide +kernel)]; exact h.2.1.2.2.2.2.2.2.2.2.2.2.2.1), (by show bnd (va_up σ.1 164 (upd (σ.1 164) k v) 162) _ _ _; rw [va_up_ne _ _ (by decide +kernel)]; exact h.2.1.2.2.2.2.2.2.2.2.2.2.2.2.1), (by show bnd (va_up σ.1 164 (upd (σ.1 164) k v) 164) _ _ _; rw [va_up_self]; exact bnd_up (h.2.1.2.2.2.2.2.2.2.2.2.2.2.2.2.1) h1 h2), (by show bnd (va_up σ.1 164 (upd (σ.1 164) k v) 165) _ _ _; rw [va_up_ne _ _ (by decide +kernel)]; exact h.2.1.2.2.2.2.2.2.2.2.2.2.2.2.2.2.1), (by show bnd (va_up σ.1 164 (upd (σ.1 164) k v) 171) _ _ _; rw [va_up_ne _ _ (by decide +kernel)]; exact h.2.1.2.2.2.2.2.2.2.2.2.2.2.2.2.2.2.1), (by show bnd (va_up σ.1 164 (upd (σ.1 164) k v) 172) _ _ _; rw [va_up_ne _ _ (by decide +kernel)]; exact h.2.1.2.2.2.2.2.2.2.2.2.2.2.2.2.2.2.2)⟩, FV_si rfl (fun e => absurd e (by decide +kernel)) h.2.2⟩
theorem MIs_a165 {σ : Sg} (h : MI σ) {k : Nat} {v : Int32} (h1 : 0 ≤ v.toInt) (h2 : v.toInt ≤ 30) : MI (si σ 165 k v) := ⟨h.1, ⟨(by show bnd (va_up σ.1 165 (upd (σ.1 165) k v) 105) _ _ _; rw [va_up_ne _ _ (by decide +kernel)]; exact h.2.1.1), (by show bnd (va_up σ.1 165 (upd (σ.1 165) k v) 110) _ _ _; rw [va_up_ne _ _ (by decide +kernel)]; exact h.2.1.2.1), (by show bnd (va_up σ.1 165 (upd (σ.1 165) k v) 116) _ _ _; rw [va_up_ne _ _ (by decide +kernel)]; exact h.2.1.2.2.1), (by show bnd (va_up σ.1 165 (upd (σ.1 165) k v) 117) _ _ _; rw [va_up_ne _ _ (by decide +kernel)]; exact h.2.1.2.2.2.1), (by show bnd (va_up σ.1 165 (upd (σ.1 165) k v) 127) _ _ _; rw [va_up_ne _ _ (by decide +kernel)]; exact h.2.1.2.2.2.2.1), (by show bnd (va_up σ.1 165 (upd (σ.1 165) k v) 129) _ _ _; rw [va_up_ne _ _ (by decide +kernel)]; exact h.2.1.2.2.2.2.2.1), (by show bnd (va_up σ.1 165 (upd (σ.1 165) k v) 134) _ _ _; rw [va_up_ne _ _ (by decide +kernel)]; exact h.2.1.2.2.2.2.2.2.1), (by show bnd (va_up σ.1 165 (upd (σ.1 165) k v) 138) _ _ _; rw [va_up_ne _ _ (by decide +kernel)]; exact h.2.1.2.2.2.2.2.2.2.1), (by show bnd (va_up σ.1 165 (upd (σ.1 165) k v) 139) _ _ _; rw [va_up_ne _ _ (by decide +kernel)]; exact h.2.1.2.2.2.2.2.2.2.2.1), (by show bnd (va_up σ.1 165 (upd (σ.1 165) k v) 142) _ _ _; rw [va_up_ne _ _ (by decide +kernel)]; exact h.2.1.2.2.2.2.2.2.2.2.2.1), (by show bnd (va_up σ.1 165 (upd (σ.1 165) k v) 143) _ _ _; rw [va_up_ne _ _ (by decide +kernel)]; exact h.2.1.2.2.2.2.2.2.2.2.2.2.1), (by show bnd (va_up σ.1 165 (upd (σ.1 165) k v) 158) _ _ _; rw [va_up_ne _ _ (by decide +kernel)]; exact h.2.1.2.2.2.2.2.2.2.2.2.2.2.1), (by show bnd (va_up σ.1 165 (upd (σ.1 165) k v) 162) _ _ _; rw [va_up_ne _ _ (by decide +kernel)]; exact h.2.1.2.2.2.2.2.2.2.2.2.2.2.2.1), (by show bnd (va_up σ.1 165 (upd (σ.1 165) k v) 164) _ _ _; rw [va_up_ne _ _ (by decide +kernel)]; exact h.2.1.2.2.2.2.2.2.2.2.2.2.2.2.2.1), (by show bnd (va_up σ.1 165 (upd (σ.1 165) k v) 165) _ _ _; rw [va_up_self]; exact bnd_up (h.2.1.2.2.2.2.2.2.2.2.2.2.2.2.2.2.1) h1 h2), (by show bnd (va_up σ.1 165 (upd (σ.1 165) k v) 171) _ _ _; rw [va_up_ne _ _ (by decide +kernel)]; exact h.2.1.2.2.2.2.2.2.2.2.2.2.2.2.2.2.2.1), (by show bnd (va_up σ.1 165 (upd (σ.1 165) k v) 172) _ _ _; rw [va_up_ne _ _ (by decide +kernel)]; exact h.2.1.2.2.2.2.2.2.2.2.2.2.2.2.2.2.2.2)⟩, FV_si rfl (fun e => absurd e (by decide +kernel)) h.2.2⟩
theorem MIs_a171 {σ : Sg} (h : MI σ) {k : Nat} {v : Int32} (h1 : -1 ≤ v.toInt) (h2 : v.toInt ≤ 4) : MI (si σ 171 k v) := ⟨h.1, ⟨(by show bnd (va_up σ.1 171 (upd (σ.1 171) k v) 105) _ _ _; rw [va_up_ne _ _ (by decide +kernel)]; exact h.2.1.1), (by show bnd (va_up σ.1 171 (upd (σ.1 171) k v) 110) _ _ _; rw [va_up_ne _ _ (by decide +kernel)]; exact h.2.1.2.1), (by show bnd (va_up σ.1 171 (upd (σ.1 171) k v) 116) _ _ _; rw [va_up_ne _ _ (by decide +kernel)]; exact h.2.1.2.2.1), (by show bnd (va_up σ.1 171 (upd (σ.1 171) k v) 117) _ _ _; rw [va_up_ne _ _ (by decide +kernel)]; exact h.2.1.2.2.2.1), (by show bnd (va_up σ.1 171 (upd (σ.1 171) k v) 127) _ _ _; rw [va_up_ne _ _ (by decide +kernel)]; exact h.2.1.2.2.2.2.1), (by show bnd (va_up σ.1 171 (upd (σ.1 171) k v) 129) _ _ _; rw [va_up_ne _ _ (by decide +kernel)]; exact h.2.1.2.2.2.2.2.1), (by show bnd (va_up σ.1 171 (upd (σ.1 171) k v) 134) _ _ _; rw [va_up_ne _ _ (by decide +kernel)]; exact h.2.1.2.2.2.2.2.2.1), (by show bnd (va_up σ.1 171 (upd (σ.1 171) k v) 138) _ _ _; rw [va_up_ne _ _ (by decide +kernel)]; exact h.2.1.2.2.2.2.2.2.2.1), (by show bnd (va_up σ.1 171 (upd (σ.1 171) k v) 139) _ _ _; rw [va_up_ne _ _ (by decide +kernel)]; exact h.2.1.2.2.2.2.2.2.2.2.1), (by show bnd (va_up σ.1 171 (upd (σ.1 171) k v) 142) _ _ _; rw [va_up_ne _ _ (by decide +kernel)]; exact h.2.1.2.2.2.2.2.2.2.2.2.1), (by show bnd (va_up σ.1 171 (upd (σ.1 171) k v) 143) _ _ _; rw [va_up_ne _ _ (by decide +kernel)]; exact h.2.1.2.2.2.2.2.2.2.2.2.2.1), (by show bnd (va_up σ.1 171 (upd (σ.1 171) k v) 158) _ _ _; rw [va_up_ne _ _ (by decide +kernel)]; exact h.2.1.2.2.2.2.2.2.2.2.2.2.2.1), (by show bnd (va_up σ.1 171 (upd (σ.1 171) k v) 162) _ _ _; rw [va_up_ne _ _ (by decide +kernel)]; exact h.2.1.2.2.2.2.2.2.2.2.2.2.2.2.1), (by show bnd (va_up σ.1 171 (upd (σ.1 171) k v) 164) _ _ _; rw [va_up_ne _ _ (by decide +kernel)]; exact h.2.1.2.2.2.2.2.2.2.2.2.2.2.2.2.1), (by show bnd (va_up σ.1 171 (upd (σ.1 171) k v) 165) _ _ _; rw [va_up_ne _ _ (by decide +kernel)]; exact h.2.1.2.2.2.2.2.2.2.2.2.2.2.2.2.2.1), (by show bnd (va_up σ.1 171 (upd (σ.1 171) k v) 171) _ _ _; rw [va_up_self]; exact bnd_up (h.2.1.2.2.2.2.2.2.2.2.2.2.2.2.2.2.2.1) h1 h2), (by show bnd (va_up σ.1 171 (upd (σ.1 171) k v) 172) _ _ _; rw [va_up_ne _ _ (by decide +kernel)]; exact h.2.1.2.2.2.2.2.2.2.2.2.2.2.2.2.2.2.2)⟩, FV_si rfl (fun e => absurd e (by decide +kernel)) h.2.2⟩
theorem MIs_a172 {σ : Sg} (h : MI σ) {k : Nat} {v : Int32} (h1 : 0 ≤ v.toInt) (h2 : v.toInt ≤ 60) : MI (si σ 172 k v) := ⟨h.1, ⟨(by show bnd (va_up σ.1 172 (upd (σ.1 172) k v) 105) _ _ _; rw [va_up_ne _ _ (by decide +kernel)]; exact h.2.1.1), (by show bnd (va_up σ.1 172 (upd (σ.1 172) k v) 110) _ _ _; rw [va_up_ne _ _ (by decide +kernel)]; exact h.2.1.2.1), (by show bnd (va_up σ.1 172 (upd (σ.1 172) k v) 116) _ _ _; rw [va_up_ne _ _ (by decide +kernel)]; exact h.2.1.2.2.1), (by show bnd (va_up σ.1 172 (upd (σ.1 172) k v) 117) _ _ _; rw [va_up_ne _ _ (by decide +kernel)]; exact h.2.1.2.2.2.1), (by show bnd (va_up σ.1 172 (upd (σ.1 172) k v) 127) _ _ _; rw [va_up_ne _ _ (by decide +kernel)]; exact h.2.1.2.2.2.2.1), (by show bnd (va_up σ.1 172 (upd (σ.1 172) k v) 129) _ _ _; rw [va_up_ne _ _ (by decide +kernel)]; exact h.2.1.2.2.2.2.2.1), (by show bnd (va_up σ.1 172 (upd (σ.1 172) k v) 134) _ _ _; rw [va_up_ne _ _ (by decide +kernel)]; exact h.2.1.2.2.2.2.2.2.1), (by show bnd (va_up σ.1 172 (upd (σ.1 172) k v) 138) _ _ _; rw [va_up_ne _ _ (by decide +kernel)]; exact h.2.1.2.2.2.2.2.2.2.1), (by show bnd (va_up σ.1 172 (upd (σ.1 172) k v) 139) _ _ _; rw [va_up_ne _ _ (by decide +kernel)]; exact h.2.1.2.2.2.2.2.2.2.2.1), (by show bnd (va_up σ.1 172 (upd (σ.1 172) k v) 142) _ _ _; rw [va_up_ne _ _ (by decide +kernel)]; exact h.2.1.2.2.2.2.2.2.2.2.2.1), (by show bnd (va_up σ.1 172 (upd (σ.1 172) k v) 143) _ _ _; rw [va_up_ne _ _ (by decide +kernel)]; exact h.2.1.2.2.2.2.2.2.2.2.2.2.1), (by show bnd (va_up σ.1 172 (upd (σ.1 172) k v) 158) _ _ _; rw [va_up_ne _ _ (by decide +kernel)]; exact h.2.1.2.2.2.2.2.2.2.2.2.2.2.1), (by show bnd (va_up σ.1 172 (upd (σ.1 172) k v) 162) _ _ _; rw [va_up_ne _ _ (by decide +kernel)]; exact h.2.1.2.2.2.2.2.2.2.2.2.2.2.2.1), (by show bnd (va_up σ.1 172 (upd (σ.1 172) k v) 164) _ _ _; rw [va_up_ne _ _ (by decide +kernel)]; exact h.2.1.2.2.2.2.2.2.2.2.2.2.2.2.2.1), (by show bnd (va_up σ.1 172 (upd (σ.1 172) k v) 165) _ _ _; rw [va_up_ne _ _ (by decide +kernel)]; exact h.2.1.2.2.2.2.2.2.2.2.2.2.2.2.2.2.1), (by show bnd (va_up σ.1 172 (upd (σ.1 172) k v) 171) _ _ _; rw [va_up_ne _ _ (by decide +kernel)]; exact h.2.1.2.2.2.2.2.2.2.2.2.2.2.2.2.2.2.1), (by show bnd (va_up σ.1 172 (upd (σ.1 172) k v) 172) _ _ _; rw [va_up_self]; exact bnd_up (h.2.1.2.2.2.2.2.2.2.2.2.2.2.2.2.2.2.2) h1 h2)⟩, FV_si rfl (fun e => absurd e (by decide +kernel)) h.2.2⟩
theorem MIs_z129 {σ : Sg} (h : MI σ) {k : Nat} {x : Int32} : MI (si σ 129 k (vp_nar .boolean x)) := MIs_a129 h (nar_z x).1 (nar_z x).2
noncomputable def okA (a : Nat) : Bool := a != 74 && !maL.contains a
theorem MIs_au0 {σ : Sg} {a k : Nat} {v : Int32} (h : MI σ) (ha : okA a = true) (hF : FV (si σ a k v)) : MI (si σ a k v) := by
  have ha1 : a ≠ 74 := fun e => by subst e; exact absurd ha (by decide +kernel)
  have ha2 : ∀ b, b ∈ maL → b ≠ a := fun b hb e => by
    subst e
    have : maL.contains b = true := List.contains_iff_mem.mpr hb
    unfold okA at ha
    rw [this] at ha
    simp at ha
  have e0 : (si σ a k v).1 74 = σ.1 74 := va_up_ne _ _ (fun e => ha1 e.symm)
  have e1 : ∀ b, b ∈ maL → (si σ a k v).1 b = σ.1 b := fun b hb => va_up_ne _ _ (ha2 b hb)
  refine ⟨?_, ?_, hF⟩
  · have h0 := h.1
    unfold MI0 gi at h0 ⊢
    rw [e0]; exact h0
  · unfold MI1
    rw [e1 105 (by decide +kernel), e1 110 (by decide +kernel), e1 116 (by decide +kernel), e1 117 (by decide +kernel), e1 127 (by decide +kernel), e1 129 (by decide +kernel), e1 134 (by decide +kernel), e1 138 (by decide +kernel), e1 139 (by decide +kernel), e1 142 (by decide +kernel), e1 143 (by decide +kernel), e1 158 (by decide +kernel), e1 162 (by decide +kernel), e1 164 (by decide +kernel), e1 165 (by decide +kernel), e1 171 (by decide +kernel), e1 172 (by decide +kernel)]
    exact h.2.1
theorem MIs_au {σ : Sg} {a k : Nat} {v : Int32} (h : MI σ) (ha : okA a = true) (hb : fvL.contains a = false) : MI (si σ a k v) := MIs_au0 h ha (FV_si hb (fun e => absurd ha (by subst e; decide)) h.2.2)
theorem cl_eq {x : Int32} (h : 0 ≤ x.toInt) : ((x.toNatClampNeg : Nat) : Int) = x.toInt := by show ((x.toInt.toNat : Nat) : Int) = x.toInt; omega
theorem MIs_l {σ : Sg} {a k : Nat} {v : Int64} (h : MI σ) : MI (sl σ a k v) := h
/-- the byte that comes next -/
noncomputable def nxt (σ : Sg) : Int32 := if gi σ 74 13 ≤ gi σ 74 14 then -1 else gi σ 116 (gi σ 74 14).toNatClampNeg
theorem nxt_a {σ : Sg} (h : gi σ 74 13 ≤ gi σ 74 14) : nxt σ = -1 := if_pos h
theorem nxt_b {σ : Sg} (h : ¬ gi σ 74 13 ≤ gi σ 74 14) : nxt σ = gi σ 116 (gi σ 74 14).toNatClampNeg := if_neg h
theorem nxt_lt {σ : Sg} (m : MI σ) (h : 0 ≤ (nxt σ).toInt) : (gi σ 74 14).toInt < (gi σ 74 13).toInt ∧ (nxt σ).toInt ≤ 127 := by
  by_cases q : gi σ 74 13 ≤ gi σ 74 14
  · rw [nxt_a q] at h; exact absurd h (by decide +kernel)
  · have b : (gi σ 74 14).toInt < (gi σ 74 13).toInt := Int.not_le.mp fun z => q (Int32.le_iff_toInt_le.mpr z)
    have b1 := MI_f13 m
    have b2 := MI_f14 m
    refine ⟨b, ?_⟩
    rw [nxt_b q]
    exact (MI_a116 m (vp_in_iff.mpr ⟨b2.1, by omega⟩)).2
/-- every mower stands in the row -/
noncomputable def PL (σ : Sg) : Prop := ∀ m : Nat, (m : Int) < (gi σ 74 0).toInt → ∃ k : Nat, (k : Int) < (gi σ 74 0).toInt ∧ gi σ 110 k = nI m
theorem PL_i {σ : Sg} (h : PL σ) {a : Int32} (h0 : 0 ≤ a.toInt) (h1 : a.toInt < (gi σ 74 0).toInt) : ∃ k : Nat, (k : Int) < (gi σ 74 0).toInt ∧ gi σ 110 k = a := by
  have ec := cl_eq h0
  obtain ⟨k, hk, e⟩ := h a.toNatClampNeg (by omega)
  refine ⟨k, hk, e.trans ?_⟩
  apply Int32.toInt_inj.mp
  rw [nI_toInt (by have := Int32.toInt_lt a; omega)]
  exact ec
theorem PL_fr {S F : List Nat} {σ σ' : Sg} (h : PL σ) (f : Fr S F σ σ') (h1 : 110 ∉ S) (h2 : 0 ∉ F) : PL σ' := by
  intro m hm
  rw [f.2.1 0 h2] at hm ⊢
  obtain ⟨k, hk, e⟩ := h m hm
  exact ⟨k, hk, (congrFun (f.1 110 h1).1 k).trans e⟩
theorem okSegG {σ : Sg} {lo hi : Nat} (h : okSeg σ lo hi) : ∃ G : Int → Int, G lo = 0 ∧ ∀ z : Int, (lo : Int) ≤ z → z < hi → (gi σ 122 z.toNat = -33 → 1 ≤ G z ∧ G (z + 1) = G z) ∧ (¬ gi σ 122 z.toNat = -33 → (gi σ 122 z.toNat).toInt < 0 → 2 ≤ G z ∧ G (z + 1) + 1 = G z) ∧ (0 ≤ (gi σ 122 z.toNat).toInt → G z ≤ 99 ∧ G (z + 1) = G z + 1) := by
  obtain ⟨H, h0, hk⟩ := h
  refine ⟨fun z => (H z.toNat : Int), by show ((H (lo : Int).toNat : Nat) : Int) = 0; rw [show (lo : Int).toNat = lo by omega, h0]; rfl, fun z h1 h2 => ?_⟩
  have e : (z + 1).toNat = z.toNat + 1 := by omega
  have q := hk z.toNat (by omega) (by omega)
  dsimp only
  rw [e]
  generalize H (z.toNat + 1) = b at q ⊢
  generalize H z.toNat = a at q ⊢
  refine ⟨fun r => ?_, fun r r2 => ?_, fun r => ?_⟩
  · have := q.1 r; omega
  · have := q.2.1 r r2; omega
  · have := q.2.2 r; omega
theorem okCl_of {σ : Sg} (h : MI σ) {c : Int32} (h1 : 0 ≤ (gi σ 74 12).toInt) (h2 : 10 * (gi σ 74 12).toInt ≤ c.toInt) (h3 : c.toInt < 10 * (gi σ 74 12).toInt + (gi σ 117 (gi σ 74 12).toNatClampNeg).toInt) (h4 : (gi σ 118 c.toNatClampNeg).toInt ≤ 1) : ∃ f : Nat, f < 6 ∧ okCl σ f c.toNatClampNeg := by
  have b := MI_f12 h
  have hv : vp_in (gi σ 74 12) 6 := vp_in_iff.mpr ⟨by omega, by omega⟩
  have b2 := MI_a117 h hv
  have ef := cl_eq h1
  have ec := cl_eq (x := c) (by omega)
  generalize (gi σ 74 12).toNatClampNeg = f at ef b2 h3
  refine ⟨f, by omega, ?_⟩
  have q := h.2.2 f (by omega) (Or.inr (Or.inl (by omega))) (c.toNatClampNeg - 10 * f) (by omega) (by omega)
  rw [show 10 * f + (c.toNatClampNeg - 10 * f) = c.toNatClampNeg by omega] at q
  exact q h4
set_option maxRecDepth 100000 in
set_option maxHeartbeats 4000000 in
theorem k_X12_in {l : Launch} {V : Vx} {a1 : Int32} {a2 : Int32} {a3 : Int32} {σ0 : Sg} {Qk : Int32 → Sg → Prop} (m0 : MI σ0) (h9ret : ∀ (r : Int32) (σ' : Sg), MI σ' → Fr [] [] σ0 σ' → (0 ≤ r.toInt) → (r.toInt ≤ 1) → ((r.toInt = 1 ∧ a2.toInt ≤ a1.toInt ∧ a1.toInt ≤ a3.toInt) ∨ (r.toInt = 0 ∧ (a1.toInt < a2.toInt ∨ a3.toInt < a1.toInt))) → Qk r σ') : K_X12_in l V a1 a2 a3 σ0 Qk := by
  refine e_X12_in (fun M hl hV hN C => ?_)
  subst hl
  subst hV
  have f0 : Fr [] [] σ0 σ0 := Fr_rf
  refine s_X12_in_0 C hN ?_
  refine ⟨?_, ?_⟩
  · intro q_1
    have w_2 := Int32.toInt_lt a1
    have w_3 := Int32.le_toInt a1
    have w_4 := Int32.toInt_lt a2
    have w_5 := Int32.le_toInt a2
    have b_6 : a1.toInt < a2.toInt := Int32.lt_iff_toInt_lt.mp q_1
    have z_7 : (0 : Int32).toInt = 0 := rfl
    exact h9ret (0 : Int32) σ0 m0 f0 (by omega) (by omega) (by first | with_reducible assumption | with_reducible rfl | omega | assumption | rfl)
  · intro q_1
    have w_8 := Int32.toInt_lt a1
    have w_9 := Int32.le_toInt a1
    have w_10 := Int32.toInt_lt a2
    have w_11 := Int32.le_toInt a2
    have b_12 : ¬ a1.toInt < a2.toInt := fun h9 => q_1 (Int32.lt_iff_toInt_lt.mpr h9)
    refine ⟨?_, ?_⟩
    · intro q_13
      have w_14 := Int32.toInt_lt a3
      have w_15 := Int32.le_toInt a3
      have b_16 : a3.toInt < a1.toInt := Int32.lt_iff_toInt_lt.mp q_13
      have z_17 : (0 : Int32).toInt = 0 := rfl
      exact h9ret (0 : Int32) σ0 m0 f0 (by omega) (by omega) (by first | with_reducible assumption | with_reducible rfl | omega | assumption | rfl)
    · intro q_13
      have w_18 := Int32.toInt_lt a3
      have w_19 := Int32.le_toInt a3
      have b_20 : ¬ a3.toInt < a1.toInt := fun h9 => q_13 (Int32.lt_iff_toInt_lt.mpr h9)
      have z_21 : (1 : Int32).toInt = 1 := rfl
      exact h9ret (1 : Int32) σ0 m0 f0 (by omega) (by omega) (by first | with_reducible assumption | with_reducible rfl | omega | assumption | rfl)
set_option maxRecDepth 100000 in
set_option maxHeartbeats 4000000 in
theorem k_X12_isMower {l : Launch} {V : Vx} {a1 : Int32} {σ0 : Sg} {Qk : Int32 → Sg → Prop} (m0 : MI σ0) (h9ret : ∀ (r : Int32) (σ' : Sg), MI σ' → Fr [] [] σ0 σ' → (0 ≤ r.toInt) → (r.toInt ≤ 1) → ((r.toInt = 1 ∧ 0 ≤ a1.toInt ∧ a1.toInt < (gi σ0 74 0).toInt) ∨ (r.toInt = 0 ∧ (a1.toInt < 0 ∨ (gi σ0 74 0).toInt ≤ a1.toInt))) → Qk r σ') : K_X12_isMower l V a1 σ0 Qk := by
  refine e_X12_isMower (fun M hl hV hN C => ?_)
  subst hl
  subst hV
  have f0 : Fr [] [] σ0 σ0 := Fr_rf
  refine s_X12_isMower_0 C hN ?_
  have t_1 := MI_f0 m0
  have t_2 : ((gi σ0 74 0) - (1 : Int32)).toInt = (gi σ0 74 0).toInt - 1 := i_sub (x := (gi σ0 74 0)) (y := (1 : Int32)) (by show (_ : Int) ≤ (gi σ0 74 0).toInt - 1; omega) (by show (gi σ0 74 0).toInt - 1 ≤ (_ : Int); omega)
  refine k_X12_in m0  (fun r2 σ1 mσ1 cσ1 plσ1 phσ1 (pσ1_0 : (r2.toInt = 1 ∧ (0 : Int) ≤ a1.toInt ∧ a1.toInt ≤ ((gi σ0 74 0) - (1 : Int32)).toInt) ∨ (r2.toInt = 0 ∧ (a1.toInt < (0 : Int) ∨ ((gi σ0 74 0) - (1 : Int32)).toInt < a1.toInt))) => ?_)
  obtain rfl := Fr_nil cσ1
  refine ⟨i_bool (by omega) (by omega), ?_⟩
  have t_3 := MI_f0 m0
  exact h9ret r2 σ0 m0 f0 (by omega) (by omega) (by first | with_reducible assumption | with_reducible rfl | omega | assumption | rfl)
/-! the model's parser: how high the pile stands, what waits -/
noncomputable def cnd (σ : Sg) (H : Nat → Nat) (k : Nat) : Prop := (gi σ 122 k = -33 → 1 ≤ H k ∧ H (k + 1) = H k) ∧ (¬ gi σ 122 k = -33 → (gi σ 122 k).toInt < 0 → 2 ≤ H k ∧ H (k + 1) + 1 = H k) ∧ (0 ≤ (gi σ 122 k).toInt → H k ≤ 99 ∧ H (k + 1) = H k + 1)
noncomputable def OKP (σ : Sg) (lo hi h : Nat) : Prop := lo ≤ hi ∧ ∃ H : Nat → Nat, H lo = 0 ∧ H hi = h ∧ ∀ k, lo ≤ k → k < hi → cnd σ H k
theorem OKP_seg {σ : Sg} {lo hi h : Nat} (q : OKP σ lo hi h) : okSeg σ lo hi := by
  obtain ⟨-, H, h0, -, hk⟩ := q
  exact ⟨H, h0, hk⟩
theorem OKP_0 {σ : Sg} {lo : Nat} : OKP σ lo lo 0 := ⟨Nat.le_refl _, fun _ => 0, rfl, rfl, fun k h1 h2 => by omega⟩
theorem OKP_eq {σ σ' : Sg} {lo hi h : Nat} (e : ∀ k, k < hi → gi σ' 122 k = gi σ 122 k) (q : OKP σ lo hi h) : OKP σ' lo hi h := by
  obtain ⟨hl, H, h0, hh, hk⟩ := q
  refine ⟨hl, H, h0, hh, fun k h1 h2 => ?_⟩
  have := hk k h1 h2
  unfold cnd at this ⊢
  rw [e k h2]
  exact this
theorem OKP_emit {σ : Sg} {lo hi h h' : Nat} (q : OKP σ lo hi h) (c1 : gi σ 122 hi = -33 → 1 ≤ h ∧ h' = h) (c2 : ¬ gi σ 122 hi = -33 → (gi σ 122 hi).toInt < 0 → 2 ≤ h ∧ h' + 1 = h) (c3 : 0 ≤ (gi σ 122 hi).toInt → h ≤ 99 ∧ h' = h + 1) : OKP σ lo (hi + 1) h' := by
  obtain ⟨hl, H, h0, hh, hk⟩ := q
  obtain ⟨G, hG⟩ : ∃ G : Nat → Nat, G = va_up H (hi + 1) h' := ⟨_, rfl⟩
  have e1 : ∀ k, k ≠ hi + 1 → G k = H k := fun k z => by rw [hG]; exact va_up_ne _ _ z
  have e2 : G (hi + 1) = h' := by rw [hG]; exact va_up_self _ _ _
  refine ⟨by omega, G, (e1 _ (by omega)).trans h0, e2, fun k h1 h2 => ?_⟩
  unfold cnd
  by_cases e : k = hi
  · rw [e, e2, e1 hi (by omega), hh]
    exact ⟨c1, c2, c3⟩
  · have := hk k h1 (by omega)
    unfold cnd at this
    rw [e1 k (by omega), e1 (k + 1) (by omega)]
    exact this
/-- how many of those that wait join two -/
noncomputable def nbw (σ : Sg) : Nat → Nat
  | 0 => 0
  | n + 1 => nbw σ n + (if gi σ 123 n = 38 ∨ gi σ 123 n = 124 then 1 else 0)
theorem nbw_eq {σ σ' : Sg} : ∀ {n : Nat}, (∀ k, k < n → gi σ' 123 k = gi σ 123 k) → nbw σ' n = nbw σ n
  | 0, _ => rfl
  | n + 1, h => by
    show nbw σ' n + _ = nbw σ n + _
    rw [nbw_eq (fun k hk => h k (by omega)), h n (by omega)]
theorem nbw_le (σ : Sg) : ∀ n : Nat, nbw σ n ≤ n
  | 0 => Nat.le_refl _
  | n + 1 => by
    show nbw σ n + _ ≤ n + 1
    have := nbw_le σ n
    split <;> omega
theorem FV_sign {σ : Sg} {k : Nat} {v : Int32} (h : FV σ) (h1 : (gi σ 74 12).toInt < (gi σ 74 11).toInt) (h2 : (gi σ 74 50).toInt < (gi σ 74 11).toInt) (hk : 100 * (gi σ 74 11).toInt ≤ (k : Int)) : FV (si σ 122 k v) := by
  intro f hf hc
  rw [gi_si_ne (Or.inl (by decide +kernel)), gi_si_ne (Or.inl (by decide +kernel)), gi_si_ne (Or.inl (by decide +kernel))] at hc
  have hlt : (f : Int) < (gi σ 74 11).toInt := by omega
  intro n hn hcl hw
  rw [gi_si_ne (Or.inl (by decide +kernel))] at hcl
  rw [gi_si_ne (Or.inl (by decide +kernel))] at hw
  obtain ⟨lo, hi, e1, e2, e3, e4, e5, e6⟩ := h f hf hc n hn hcl hw
  exact ⟨lo, hi, by rw [gi_si_ne (Or.inl (by decide +kernel))]; exact e1, by rw [gi_si_ne (Or.inl (by decide +kernel))]; exact e2, e3, e4, e5, okSeg_eq (fun j j1 j2 => gi_si_ne (Or.inr (by omega))) e6⟩
noncomputable def EMT (σ σ' : Sg) (v : Int32) : Prop := gi σ' 122 (gi σ 74 24).toNatClampNeg = v ∧ ∀ k, k ≠ (gi σ 74 24).toNatClampNeg → gi σ' 122 k = gi σ 122 k
/-- what the popping of signs that wait leaves -/
noncomputable def HK (σ σ' : Sg) : Prop := ∀ lo h : Nat, 1 ≤ h → OKP σ lo (gi σ 74 24).toNatClampNeg h → OKP σ' lo (gi σ' 74 24).toNatClampNeg h
theorem HK_rf {σ : Sg} : HK σ σ := fun _ _ _ q => q
theorem HK_emit {σ0 σ σ1 σ2 : Sg} {v : Int32} (hv : v = -33) (h : HK σ0 σ) (e : EMT σ σ1 v) (h24 : 0 ≤ (gi σ 74 24).toInt) (e24 : (gi σ2 74 24).toInt = (gi σ 74 24).toInt + 1) (e2 : ∀ k, gi σ2 122 k = gi σ1 122 k) : HK σ0 σ2 := fun lo n hn q => by
  have ec := cl_eq h24
  have ec2 := cl_eq (x := gi σ2 74 24) (by omega)
  have q1 := h lo n hn q
  rw [show (gi σ2 74 24).toNatClampNeg = (gi σ 74 24).toNatClampNeg + 1 from by omega]
  have q2 : OKP σ2 lo (gi σ 74 24).toNatClampNeg n := OKP_eq (fun k hk => by rw [e2, e.2 k (by omega)]) q1
  have es : gi σ2 122 (gi σ 74 24).toNatClampNeg = -33 := by rw [e2, e.1, hv]
  exact OKP_emit q2 (fun _ => ⟨hn, rfl⟩) (fun z => absurd es z) (fun z => by rw [es] at z; exact absurd z (by decide +kernel))
theorem nbw_n {σ : Sg} {n : Nat} (h : ¬ (gi σ 123 n = 38 ∨ gi σ 123 n = 124)) : nbw σ (n + 1) = nbw σ n := by
  show nbw σ n + _ = nbw σ n
  rw [if_neg h]; rfl
theorem nbw_y {σ : Sg} {n : Nat} (h : gi σ 123 n = 38 ∨ gi σ 123 n = 124) : nbw σ (n + 1) = nbw σ n + 1 := by
  show nbw σ n + _ = nbw σ n + 1
  rw [if_pos h]
theorem nbw_pop {σ0 σ σ6 : Sg} {N : Nat} (i3 : nbw σ0 (gi σ 74 25).toNatClampNeg = N) (hq : ∀ k, gi σ 123 k = gi σ0 123 k) (h0 : 1 ≤ (gi σ 74 25).toInt) (h6 : (gi σ6 74 25).toInt = (gi σ 74 25).toInt - 1) (h1 : ((gi σ 74 25) - 1).toInt = (gi σ 74 25).toInt - 1) (q : gi σ 123 ((gi σ 74 25) - 1).toNatClampNeg = 33) : nbw σ0 (gi σ6 74 25).toNatClampNeg = N := by
  have e1 := cl_eq (x := gi σ 74 25) (by omega)
  have e2 := cl_eq (x := gi σ6 74 25) (by omega)
  have e3 := cl_eq (x := (gi σ 74 25) - 1) (by omega)
  rw [← i3, show (gi σ 74 25).toNatClampNeg = (gi σ6 74 25).toNatClampNeg + 1 from by omega]
  refine (nbw_n ?_).symm
  rw [show (gi σ6 74 25).toNatClampNeg = ((gi σ 74 25) - 1).toNatClampNeg from by omega, ← hq, q]
  decide
/-- the signs that stood there stay -/
noncomputable def BL (σ σ' : Sg) : Prop := ∀ k : Nat, (k : Int) < (gi σ 74 24).toInt → gi σ' 122 k = gi σ 122 k
theorem BL_rf {σ : Sg} : BL σ σ := fun _ _ => rfl
theorem BL_emit {σ0 σ σ1 σ2 : Sg} {v : Int32} (h : BL σ0 σ) (e : EMT σ σ1 v) (hs : (gi σ0 74 24).toInt ≤ (gi σ 74 24).toInt) (h0 : 0 ≤ (gi σ 74 24).toInt) (e2 : ∀ k, gi σ2 122 k = gi σ1 122 k) : BL σ0 σ2 := fun k hk => by
  have ec := cl_eq h0
  rw [e2, e.2 k (by omega)]
  exact h k hk
noncomputable def HS (σ0 σ : Sg) : Prop := ∀ lo : Nat, OKP σ0 lo (gi σ0 74 24).toNatClampNeg (nbw σ0 (gi σ0 74 25).toNatClampNeg + 1) → OKP σ lo (gi σ 74 24).toNatClampNeg (nbw σ0 (gi σ 74 25).toNatClampNeg + 1)
theorem HS_rf {σ : Sg} : HS σ σ := fun _ q => q
theorem HS_step {σ0 σ σ1 σ3 : Sg} {v : Int32} (h : HS σ0 σ) (hq : ∀ k, gi σ 123 k = gi σ0 123 k) (e1 : σ1 = si σ 74 25 ((gi σ 74 25) - 1)) (w1 : 1 ≤ (gi σ 74 25).toInt) (t1 : ((gi σ 74 25) - 1).toInt = (gi σ 74 25).toInt - 1) (top : gi σ 123 ((gi σ 74 25) - 1).toNatClampNeg = 38 ∨ gi σ 123 ((gi σ 74 25) - 1).toNatClampNeg = 124) (hv : v = -(gi σ1 123 (gi σ1 74 25).toNatClampNeg)) (e : EMT σ1 σ3 v) (s24 : 0 ≤ (gi σ 74 24).toInt) (e24 : (gi σ3 74 24).toInt = (gi σ1 74 24).toInt + 1) (w3 : (gi σ3 74 25).toInt = (gi σ1 74 25).toInt) : HS σ0 σ3 := fun lo q0 => by
  have q := h lo q0
  have a24 : gi σ1 74 24 = gi σ 74 24 := by rw [e1, gi_si_ne (Or.inr (by decide +kernel))]
  have a25 : gi σ1 74 25 = (gi σ 74 25) - 1 := by rw [e1, gi_si_eq]
  have a123 : ∀ k, gi σ1 123 k = gi σ 123 k := fun k => by rw [e1, gi_si_ne (Or.inl (by decide +kernel))]
  have a122 : ∀ k, gi σ1 122 k = gi σ 122 k := fun k => by rw [e1, gi_si_ne (Or.inl (by decide +kernel))]
  rw [a24] at e24
  rw [a25] at w3
  have c1 := cl_eq (x := gi σ 74 25) (by omega)
  have c3 := cl_eq (x := gi σ3 74 25) (by omega)
  have c4 := cl_eq (x := (gi σ 74 25) - 1) (by omega)
  have c5 := cl_eq s24
  have c6 := cl_eq (x := gi σ3 74 24) (by omega)
  have ew : (gi σ 74 25).toNatClampNeg = (gi σ3 74 25).toNatClampNeg + 1 := by omega
  have es : (gi σ3 74 24).toNatClampNeg = (gi σ 74 24).toNatClampNeg + 1 := by omega
  have et : ((gi σ 74 25) - 1).toNatClampNeg = (gi σ3 74 25).toNatClampNeg := by omega
  rw [et] at top
  rw [ew, nbw_y (by rw [← hq]; exact top)] at q
  rw [es]
  obtain ⟨f1, f2⟩ := e
  rw [a24] at f1 f2
  have fv : gi σ3 122 (gi σ 74 24).toNatClampNeg = -38 ∨ gi σ3 122 (gi σ 74 24).toNatClampNeg = -124 := by
    rw [f1, hv, a25, a123, et]
    rcases top with z | z <;> rw [z]
    · exact Or.inl rfl
    · exact Or.inr rfl
  have q2 : OKP σ3 lo (gi σ 74 24).toNatClampNeg (nbw σ0 (gi σ3 74 25).toNatClampNeg + 1 + 1) := OKP_eq (fun k hk => by rw [f2 k (by omega), a122]) q
  refine OKP_emit q2 (fun z => ?_) (fun _ _ => ⟨by omega, rfl⟩) (fun z => ?_)
  · rcases fv with y | y <;> rw [y] at z <;> exact absurd z (by decide +kernel)
  · rcases fv with y | y <;> rw [y] at z <;> exact absurd z (by decide +kernel)
/-- what a test that was taken leaves -/
noncomputable def HT (σ σ' : Sg) : Prop := ∀ lo h : Nat, h ≤ 99 → OKP σ lo (gi σ 74 24).toNatClampNeg h → OKP σ' lo (gi σ' 74 24).toNatClampNeg (h + 1)
theorem HT_mk {σ0 σ σ1 σ2 : Sg} {v : Int32} (a24 : (gi σ 74 24).toInt = (gi σ0 74 24).toInt) (a122 : ∀ k, gi σ 122 k = gi σ0 122 k) (hv : 0 ≤ v.toInt) (s24 : 0 ≤ (gi σ 74 24).toInt) (e : EMT σ σ1 v) (e24 : (gi σ1 74 24).toInt = (gi σ 74 24).toInt + 1) (w : HK σ1 σ2) : HT σ0 σ2 := fun lo h hh q => by
  have c1 := cl_eq s24
  have c2 := cl_eq (x := gi σ1 74 24) (by omega)
  have c3 := cl_eq (x := gi σ0 74 24) (by omega)
  refine w lo (h + 1) (by omega) ?_
  rw [show (gi σ1 74 24).toNatClampNeg = (gi σ0 74 24).toNatClampNeg + 1 from by omega]
  have ez : (gi σ 74 24).toNatClampNeg = (gi σ0 74 24).toNatClampNeg := by omega
  obtain ⟨f1, f2⟩ := e
  rw [ez] at f1 f2
  refine OKP_emit (OKP_eq (fun k hk => by rw [f2 k (by omega), a122]) q) (fun z => ?_) (fun _ z => ?_) (fun _ => ⟨hh, rfl⟩)
  · rw [f1] at z; rw [z] at hv; exact absurd hv (by decide +kernel)
  · rw [f1] at z; omega
section Rules3
variable {M : Mx} {cc : ByteArray} {ret : Option FieldType} {own : String} {Ts : List Cond} {rm : Room} {mc ms : Nat} {Qc : Array Value → State → Outcome → State → Prop} {pc : Nat} {lv lv' : List (Nat × Value)} {st : List Value} {σ : Sg} {kn : Nat × Nat}
/-- a mower that lives -/
noncomputable def isW (M : Mx) (μ : Nat) : Prop := ∃ ci : Nat, isMc ci ∧ kd μ = (10 + ci, 0) ∧ μ ∈ ids (mV M)
theorem P_aldTe (C : Cx M cc ret own Ts rm mc ms Qc) {id n e : Nat} {i : Int32} (hk : kd id = (6, n)) (hi : id ∈ ids (mV M)) (hin : vp_in i n) (he : id + 1 + 2 * i.toNatClampNeg = e) (hd : decode cc pc = .ok (.aaload, 1)) (h : PS M (pc + 1) lv (.ref e :: st) σ kn) : PS M pc lv (.int i :: .ref id :: st) σ kn := by
  subst he; exact P_aldT C hk hi hin hd h
noncomputable def KC (own : String) (Ts : List Cond) (idx : Nat) : Prop := Cond.methodLink own idx arraycopyName ∈ Ts ∧ Cond.native arraycopyName ∈ Ts ∧ Cond.static arraycopyName ∈ Ts ∧ Cond.initialized "java/lang/System" ∈ Ts
theorem P_copyi (C : Cx M cc ret own Ts rm mc ms Qc) {idx src dst n0 n1 : Nat} {sp dp n : Int32} (k : KC own Ts idx) (hk0 : kd src = (0, n0)) (hi0 : src ∈ ids (mV M)) (hk1 : kd dst = (0, n1)) (hi1 : dst ∈ ids (mV M)) (h1 : ¬ sp < 0) (h2 : ¬ dp < 0) (h3 : ¬ n < 0) (h4 : sp.toNatClampNeg + n.toNatClampNeg ≤ n0) (h5 : dp.toNatClampNeg + n.toNatClampNeg ≤ n1) (hR : 1 ≤ rm.frames) (hL : (st.map fun v => v.category).sum + (nativeFrameWords "java/lang/System" "arraycopy" 5 + 11) ≤ rm.locals) (hd : decode cc pc = .ok (.invokestatic idx, 3)) (h : PS M (pc + 3) lv st (sia σ dst (va_cpy (σ.1 src) (σ.1 dst) sp.toNatClampNeg dp.toNatClampNeg n.toNatClampNeg)) kn) : PS M pc lv (.int n :: .int dp :: .ref dst :: .int sp :: .ref src :: st) σ kn := by
  obtain ⟨p, l, e, R, s, m, args, below, meth, c, V, nL, Q⟩ := M
  intro ls H locs hl hG hS
  obtain ⟨hx, hb, hml, hown, hts, hr, hlk, hK, rfl, rfl, hw, hX⟩ := C
  obtain ⟨k1, k2, k3, k4⟩ := k
  obtain ⟨q0, hq0⟩ := cell_at (V := V) (σ := σ) hi0
  obtain ⟨q1, hq1⟩ := cell_at (V := V) (σ := σ) hi1
  have hq1' := hq1
  rw [ct_i hk0 (by decide +kernel)] at hq0
  rw [ct_i hk1 (by decide +kernel)] at hq1
  have e9 : (st.map (cv V)).map (fun v => v.category) = st.map (fun v => v.category) := by rw [List.map_map]; exact List.map_congr_left (fun v _ => cv_cat V v)
  refine va_copyi (D := vD V) hx hb (hml.trans hl.1.symm) hown (hts _ k1) (hts _ k2) (hts _ k3) (hts _ k4) hK hG.1 hG.2.1 hS q0 q1 0 0 hq0 hq1 rfl rfl rfl h1 h2 h3 h4 h5 (fun i _ => rfl) hR (by rw [e9]; exact hL) hd (fun H1 locs1 hP hD hS => ?_)
  have e : (cells V σ).set q1 (va V dst, .inl (vC V 0, n1, .inl (va_cpy (σ.1 src) (σ.1 dst) sp.toNatClampNeg dp.toNatClampNeg n.toNatClampNeg))) = cells V (sia σ dst (va_cpy (σ.1 src) (σ.1 dst) sp.toNatClampNeg dp.toNatClampNeg n.toNatClampNeg)) := by
    have e := cell_set (σ' := sia σ dst (va_cpy (σ.1 src) (σ.1 dst) sp.toNatClampNeg dp.toNatClampNeg n.toNatClampNeg)) hG.2.1 hq1' hi1 (fun j hj => ct_sia hj)
    rw [ct_i hk1 (by decide +kernel)] at e
    rw [← e]
    show _ = List.set _ _ (_, Sum.inl (_, _, Sum.inl (va_up σ.1 dst _ dst)))
    rw [va_up_self]
  rw [e] at hP hD
  exact h ls H1 locs1 hl ⟨hP, hD, hG.2.2⟩ hS
theorem P_copyl (C : Cx M cc ret own Ts rm mc ms Qc) {idx src dst n0 n1 : Nat} {sp dp n : Int32} (k : KC own Ts idx) (hk0 : kd src = (3, n0)) (hi0 : src ∈ ids (mV M)) (hk1 : kd dst = (3, n1)) (hi1 : dst ∈ ids (mV M)) (h1 : ¬ sp < 0) (h2 : ¬ dp < 0) (h3 : ¬ n < 0) (h4 : sp.toNatClampNeg + n.toNatClampNeg ≤ n0) (h5 : dp.toNatClampNeg + n.toNatClampNeg ≤ n1) (hR : 1 ≤ rm.frames) (hL : (st.map fun v => v.category).sum + (nativeFrameWords "java/lang/System" "arraycopy" 5 + 11) ≤ rm.locals) (hd : decode cc pc = .ok (.invokestatic idx, 3)) (h : PS M (pc + 3) lv st (sla σ dst (va_cpy (σ.2.1 src) (σ.2.1 dst) sp.toNatClampNeg dp.toNatClampNeg n.toNatClampNeg)) kn) : PS M pc lv (.int n :: .int dp :: .ref dst :: .int sp :: .ref src :: st) σ kn := by
  obtain ⟨p, l, e, R, s, m, args, below, meth, c, V, nL, Q⟩ := M
  intro ls H locs hl hG hS
  obtain ⟨hx, hb, hml, hown, hts, hr, hlk, hK, rfl, rfl, hw, hX⟩ := C
  obtain ⟨k1, k2, k3, k4⟩ := k
  obtain ⟨q0, hq0⟩ := cell_at (V := V) (σ := σ) hi0
  obtain ⟨q1, hq1⟩ := cell_at (V := V) (σ := σ) hi1
  have hq1' := hq1
  rw [ct_l hk0] at hq0
  rw [ct_l hk1] at hq1
  have e9 : (st.map (cv V)).map (fun v => v.category) = st.map (fun v => v.category) := by rw [List.map_map]; exact List.map_congr_left (fun v _ => cv_cat V v)
  refine va_copyl (D := vD V) hx hb (hml.trans hl.1.symm) hown (hts _ k1) (hts _ k2) (hts _ k3) (hts _ k4) hK hG.1 hG.2.1 hS q0 q1 3 3 hq0 hq1 rfl rfl rfl h1 h2 h3 h4 h5 (fun i _ => rfl) hR (by rw [e9]; exact hL) hd (fun H1 locs1 hP hD hS => ?_)
  have e : (cells V σ).set q1 (va V dst, .inl (vC V 3, n1, .inr (.inl (va_cpy (σ.2.1 src) (σ.2.1 dst) sp.toNatClampNeg dp.toNatClampNeg n.toNatClampNeg)))) = cells V (sla σ dst (va_cpy (σ.2.1 src) (σ.2.1 dst) sp.toNatClampNeg dp.toNatClampNeg n.toNatClampNeg)) := by
    have e := cell_set (σ' := sla σ dst (va_cpy (σ.2.1 src) (σ.2.1 dst) sp.toNatClampNeg dp.toNatClampNeg n.toNatClampNeg)) hG.2.1 hq1' hi1 (fun j hj => ct_sla hj)
    rw [ct_l hk1] at e
    rw [← e]
    show _ = List.set _ _ (_, Sum.inl (_, _, Sum.inr (Sum.inl (va_up σ.2.1 dst _ dst))))
    rw [va_up_self]
  rw [e] at hP hD
  exact h ls H1 locs1 hl ⟨hP, hD, hG.2.2⟩ hS
theorem map_up (ad : Nat → Nat) (r : Nat → Option Nat) (k : Nat) (v : Option Nat) : va_up (fun j => (r j).map ad) k (v.map ad) = fun j => (va_up r k v j).map ad := by
  funext j
  unfold va_up
  split <;> rfl
theorem sr_cells {V : Vx} {σ : Sg} {A : Nat → Prop} {id n q0 k : Nat} {v : Option Nat} (hD : va_D A (cells V σ)) (hk : kd id = (4, n)) (hi : id ∈ ids V) (hq : (cells V σ)[q0]? = some (va V id, ct V σ id)) : (cells V σ).set q0 (va V id, .inl (vC V 4, n, .inr (.inr (.inr (.inr (va_up (fun j => (σ.2.2 id j).map (va V)) k (v.map (va V)))))))) = cells V (sr σ id k v) := by
  have e := cell_set (σ' := sr σ id k v) hD hq hi (fun j hj => ct_sra hj)
  rw [ct_r hk (by decide +kernel) (by decide +kernel)] at e
  rw [← e, map_up]
  show _ = List.set _ _ (_, Sum.inl (_, _, Sum.inr (Sum.inr (Sum.inr (Sum.inr (fun j => (va_up σ.2.2 id _ id j).map (va V)))))))
  rw [va_up_self]
theorem msub4 {ci : Nat} : msub ci 4 = true := by simp [msub]
theorem P_astM (C : Cx M cc ret own Ts rm mc ms Qc) {id n ci μ z : Nat} {i : Int32} (hk : kd id = (4, n)) (hi : id ∈ ids (mV M)) (hin : vp_in i n) (hm : isMc ci) (hkm : kd μ = (10 + ci, z)) (him : μ ∈ ids (mV M)) (hd : decode cc pc = .ok (.aastore, 1)) (h : PS M (pc + 1) lv st (sr σ id i.toNatClampNeg (some μ)) kn) : PS M pc lv (.ref μ :: .int i :: .ref id :: st) σ kn := by
  obtain ⟨p, l, e, R, s, m, args, below, meth, c, V, nL, Q⟩ := M
  intro ls H locs hl hG hS
  obtain ⟨hx, hb, hml, hown, hts, hr, hlk, hK, rfl, rfl, hw, hX⟩ := C
  obtain ⟨q0, hq⟩ := cell_at (V := V) (σ := σ) hi
  have hq0 := hq
  rw [ct_r hk (by decide +kernel) (by decide +kernel)] at hq
  obtain ⟨qm, hqm⟩ := cell_at (V := V) (σ := σ) him
  rw [ct_o hkm] at hqm
  obtain ⟨Cn, T, hcl, hnm, -, -⟩ := mcT hm
  have hany : va_Any "NineMowers$Mower" s H (va V μ) := va_rAny hK hG.1 hqm hcl (fun comp c0 f1 f2 => by
    rw [(hX.2.2 s hX.1).1 ci 4 (mcs_of hm) (by decide +kernel) c0 comp (by rw [hnm]; exact f2) f1]
    exact msub4)
  refine va_astqM (D := vD V) hx hb hK hG.1 hG.2.1 hS q0 4 hq rfl hany hin hd (fun H1 locs1 hP hD hS => ?_)
  have e := sr_cells (k := i.toNatClampNeg) (v := some μ) hG.2.1 hk hi hq0
  rw [show some (va V μ) = (some μ).map (va V) from rfl, e] at hP hD
  exact h ls H1 locs1 hl ⟨hP, hD, hG.2.2⟩ hS
theorem P_astN (C : Cx M cc ret own Ts rm mc ms Qc) {id n : Nat} {i : Int32} (hk : kd id = (4, n)) (hi : id ∈ ids (mV M)) (hin : vp_in i n) (hd : decode cc pc = .ok (.aastore, 1)) (h : PS M (pc + 1) lv st (sr σ id i.toNatClampNeg none) kn) : PS M pc lv (.null :: .int i :: .ref id :: st) σ kn := by
  obtain ⟨p, l, e, R, s, m, args, below, meth, c, V, nL, Q⟩ := M
  intro ls H locs hl hG hS
  obtain ⟨hx, hb, hml, hown, hts, hr, hlk, hK, rfl, rfl, hw, hX⟩ := C
  obtain ⟨q0, hq⟩ := cell_at (V := V) (σ := σ) hi
  have hq0 := hq
  rw [ct_r hk (by decide +kernel) (by decide +kernel)] at hq
  refine va_astqN (D := vD V) hx hb hK hG.1 hG.2.1 hS q0 4 hq rfl hin hd (fun H1 locs1 hP hD hS => ?_)
  have e := sr_cells (k := i.toNatClampNeg) (v := none) hG.2.1 hk hi hq0
  rw [show (none : Option Nat) = (none : Option Nat).map (va V) from rfl, e] at hP hD
  exact h ls H1 locs1 hl ⟨hP, hD, hG.2.2⟩ hS
theorem P_mcopy (C : Cx M cc ret own Ts rm mc ms Qc) {src dst n0 n1 : Nat} {i j : Int32} (hk0 : kd src = (4, n0)) (hi0 : src ∈ ids (mV M)) (hv : vp_in i n0) (hk1 : kd dst = (4, n1)) (hi1 : dst ∈ ids (mV M)) (hw : vp_in j n1) (hm : ∀ μ, gr σ src i.toNatClampNeg = some μ → isW M μ) (hd : decode cc pc = .ok (.aaload, 1)) (hd2 : decode cc (pc + 1) = .ok (.aastore, 1)) (h : PS M (pc + 1 + 1) lv st (sr σ dst j.toNatClampNeg (gr σ src i.toNatClampNeg)) kn) : PS M pc lv (.int i :: .ref src :: .int j :: .ref dst :: st) σ kn := by
  cases hr : gr σ src i.toNatClampNeg with
  | none =>
    rw [hr] at h
    exact P_aldN C hk0 (Or.inl rfl) hi0 hv hr hd (P_astN C hk1 hi1 hw hd2 h)
  | some μ =>
    rw [hr] at h
    obtain ⟨ci, m1, m2, m3⟩ := hm μ hr
    exact P_aldD C hk0 (Or.inl rfl) hi0 hv hr hd (P_astM C hk1 hi1 hw m1 m2 m3 hd2 h)
theorem P_inst (C : Cx M cc ret own Ts rm mc ms Qc) {idx ct ci μ z : Nat} {nm : String} (hw : Cond.classLink own idx nm ∈ Ts) (hn : mnm ct = nm) (hm : isMc ci) (hct : isMc ct) (hkm : kd μ = (10 + ci, z)) (him : μ ∈ ids (mV M)) (hd : decode cc pc = .ok (.instanceof idx, 3)) (h : PS M (pc + 3) lv (.int (if msub ci ct then 1 else 0) :: st) σ kn) : PS M pc lv (.ref μ :: st) σ kn := by
  obtain ⟨p, l, e, R, s, m, args, below, meth, c, V, nL, Q⟩ := M
  intro ls H locs hl hG hS
  obtain ⟨hx, hb, hml, hown, hts, hr, hlk, hK, rfl, rfl, hw2, hX⟩ := C
  obtain ⟨qm, hqm⟩ := cell_at (V := V) (σ := σ) him
  rw [ct_o hkm] at hqm
  obtain ⟨Cn, T, hcl, hnm, -, -⟩ := mcT hm
  obtain ⟨Ct, T2, hcl2, hnm2, -, -⟩ := mcT hct
  obtain ⟨cell, h1, h2, h3⟩ := va_recv hK hG.1 hcl hqm
  obtain ⟨hfc, kC, hkC, hkind⟩ := (hK.1 ct _ hcl2).2
  have hfc : s.vm.findClass nm = some (vD V |>.1 ct) := by rw [← hn, hnm2]; exact hfc
  have ha := (hX.2.2 s hX.1).1 ci ct (mcs_of hm) (mcs_of hct) cell.cls _ (by rw [hnm]; exact h3) (by rw [hn]; exact hfc)
  have k := h ls H locs hl hG hS
  cases hb2 : msub ci ct with
  | true =>
    rw [hb2] at ha k
    intro T hT X
    obtain ⟨vm', X', st⟩ := X.instanceofYes hx hown (hts _ hw) (by rw [hT]; exact h1) h2 hfc ha (g := F0 m pc ls (.ref (va V μ) :: _)) rfl rfl (by rw [hb]; exact hd)
    obtain ⟨t, a1, b1⟩ := k (T.setVm vm') hT X'
    exact ⟨t, st t a1, b1⟩
  | false =>
    rw [hb2] at ha k
    exact va_instNo hx hb hown (hts _ hw) ⟨cell.cls, _, h3, hfc, ha⟩ ⟨cell, h1, h2, h3⟩ hd k
end Rules3

theorem fa_X5_isFull_7 : FA RX5 wsX5_isFull 7 5 1 "NineMowers$Numbers" := by
  show _ ∧ _ ∧ _ ∧ _
  exact ⟨by decide +kernel, fun _ h => List.mem_cons_of_mem _ (List.mem_append_right _ h), List.mem_of_getElem? (i := 1) rfl, Or.inl rfl⟩
theorem fa_X5_isFull_13 : FA RX5 wsX5_isFull 13 5 0 "NineMowers$Numbers" := by
  show _ ∧ _ ∧ _ ∧ _
  exact ⟨by decide +kernel, fun _ h => List.mem_cons_of_mem _ (List.mem_append_right _ h), List.mem_of_getElem? (i := 2) rfl, Or.inl rfl⟩
noncomputable def K_X5_isFull (l : Launch) (V : Vx) (c0 : Nat) (σ : Sg) (Qk : Int32 → Sg → Prop) : Prop := Ka l V yX5_isFull wsX5_isFull (rmz 0) 0 0 [.ref c0] σ (QI V Qk)
theorem e_X5_isFull {l : Launch} {V : Vx} {c0 : Nat} {σ : Sg} {Qk : Int32 → Sg → Prop} (h : ∀ M : Mx, mL M = l → mV M = V → mN M = 1 → Cx M cX5_isFull (some .boolean) RX5 wsX5_isFull (rmz 0) 0 0 (QI (mV M) Qk) → PS M 0 [(0, .ref c0)] [] σ (0, 0)) : K_X5_isFull l V c0 σ Qk :=
  Ka_of (by decide +kernel) rfl rfl (Nat.le_of_ble_eq_true rfl) (fun M h1 h2 h3 C => h M h1 h2 h3 (by rw [h2]; exact C))
set_option maxRecDepth 100000 in
set_option maxHeartbeats 4000000 in
theorem s_X5_isFull_0 {M : Mx} {Qk : Int32 → Sg → Prop} (C : Cx M cX5_isFull (some .boolean) RX5 wsX5_isFull (rmz 0) 0 0 (QI (mV M) Qk)) (hN : mN M = 1) {c0 : Nat} (hc0 : isN c0) {σ : Sg} (h : (((gi σ c0 1) < (Int32.ofNat (nl c0)) → Qk (0 : Int32) σ) ∧ (¬ (gi σ c0 1) < (Int32.ofNat (nl c0)) → Qk (1 : Int32) σ))) : PS M 0 [(0, .ref c0)] [] σ (0, 0) := by
  refine P_aload_n C dX5_isFull_0 0 rfl ?_
  refine P_getI C fa_X5_isFull_7 (kdN_0 hc0) rfl (fxl (fxN_0 hc0)) dX5_isFull_1 ?_
  refine P_aload_n C dX5_isFull_4 0 rfl ?_
  refine P_getS C (e := (c0 + 1)) fa_X5_isFull_13 (kdN_0 hc0) (d := 1) rfl (fxl (fxN_0 hc0)) rfl dX5_isFull_5 ?_
  refine P_alen C (kdN_1 hc0) (by decide +kernel) (fxl (fxN_1 hc0)) (v := Int32.ofNat (nl c0)) rfl dX5_isFull_8 ?_
  refine P_icmp_lt C dX5_isFull_9 (tgt := 16) (by decide +kernel) (fun q1 => ?_) (fun q1 => ?_)
  · have h := h.1 q1
    refine P_iconst C dX5_isFull_16 (v := (0 : Int32)) rfl ?_
    exact P_zret C (by decide +kernel) dX5_isFull_17 h
  · have h := h.2 q1
    refine P_iconst C dX5_isFull_12 (v := (1 : Int32)) rfl ?_
    refine P_goto C dX5_isFull_13 (tgt := 17) (by decide +kernel) ?_
    exact P_zret C (by decide +kernel) dX5_isFull_17 h
theorem fa_X5_has_7 : FA RX5 wsX5_has 7 5 1 "NineMowers$Numbers" := by
  show _ ∧ _ ∧ _ ∧ _
  exact ⟨by decide +kernel, fun _ h => List.mem_cons_of_mem _ (List.mem_append_right _ h), List.mem_of_getElem? (i := 1) rfl, Or.inl rfl⟩
theorem fa_X5_has_13 : FA RX5 wsX5_has 13 5 0 "NineMowers$Numbers" := by
  show _ ∧ _ ∧ _ ∧ _
  exact ⟨by decide +kernel, fun _ h => List.mem_cons_of_mem _ (List.mem_append_right _ h), List.mem_of_getElem? (i := 2) rfl, Or.inl rfl⟩
noncomputable def K_X5_has (l : Launch) (V : Vx) (c0 : Nat) (a1 : Int32) (σ : Sg) (Qk : Int32 → Sg → Prop) : Prop := Ka l V yX5_has wsX5_has (rmz 0) 0 0 [.ref c0, .int a1] σ (QI V Qk)
theorem e_X5_has {l : Launch} {V : Vx} {c0 : Nat} {a1 : Int32} {σ : Sg} {Qk : Int32 → Sg → Prop} (h : ∀ M : Mx, mL M = l → mV M = V → mN M = 2 → Cx M cX5_has (some .boolean) RX5 wsX5_has (rmz 0) 0 0 (QI (mV M) Qk) → PS M 0 [(0, .ref c0), (1, .int a1)] [] σ (0, 0)) : K_X5_has l V c0 a1 σ Qk :=
  Ka_of (by decide +kernel) rfl rfl (Nat.le_of_ble_eq_true rfl) (fun M h1 h2 h3 C => h M h1 h2 h3 (by rw [h2]; exact C))
set_option maxRecDepth 100000 in
set_option maxHeartbeats 4000000 in
theorem s_X5_has_0 {M : Mx} {Qk : Int32 → Sg → Prop} (C : Cx M cX5_has (some .boolean) RX5 wsX5_has (rmz 0) 0 0 (QI (mV M) Qk)) (hN : mN M = 2) {c0 : Nat} {a1 : Int32} (hc0 : isN c0) {σ : Sg} (h : ((a1 < 0 → Qk (0 : Int32) σ) ∧ (¬ a1 < 0 → (((gi σ c0 1) ≤ a1 → Qk (0 : Int32) σ) ∧ (¬ (gi σ c0 1) ≤ a1 → (((Int32.ofNat (nl c0)) ≤ a1 → Qk (0 : Int32) σ) ∧ (¬ (Int32.ofNat (nl c0)) ≤ a1 → Qk (1 : Int32) σ))))))) : PS M 0 [(0, .ref c0), (1, .int a1)] [] σ (0, 0) := by
  refine P_iload_n C dX5_has_0 1 rfl ?_
  refine P_if_lt C dX5_has_1 (tgt := 25) (by decide +kernel) (fun q1 => ?_) (fun q1 => ?_)
  · have h := h.1 q1
    refine P_iconst C dX5_has_25 (v := (0 : Int32)) rfl ?_
    exact P_zret C (by decide +kernel) dX5_has_26 h
  · have h := h.2 q1
    refine P_iload_n C dX5_has_4 1 rfl ?_
    refine P_aload_n C dX5_has_5 0 rfl ?_
    refine P_getI C fa_X5_has_7 (kdN_0 hc0) rfl (fxl (fxN_0 hc0)) dX5_has_6 ?_
    refine P_icmp_ge C dX5_has_9 (tgt := 25) (by decide +kernel) (fun q2 => ?_) (fun q2 => ?_)
    · have h := h.1 q2
      refine P_iconst C dX5_has_25 (v := (0 : Int32)) rfl ?_
      exact P_zret C (by decide +kernel) dX5_has_26 h
    · have h := h.2 q2
      refine P_iload_n C dX5_has_12 1 rfl ?_
      refine P_aload_n C dX5_has_13 0 rfl ?_
      refine P_getS C (e := (c0 + 1)) fa_X5_has_13 (kdN_0 hc0) (d := 1) rfl (fxl (fxN_0 hc0)) rfl dX5_has_14 ?_
      refine P_alen C (kdN_1 hc0) (by decide +kernel) (fxl (fxN_1 hc0)) (v := Int32.ofNat (nl c0)) rfl dX5_has_17 ?_
      refine P_icmp_ge C dX5_has_18 (tgt := 25) (by decide +kernel) (fun q3 => ?_) (fun q3 => ?_)
      · have h := h.1 q3
        refine P_iconst C dX5_has_25 (v := (0 : Int32)) rfl ?_
        exact P_zret C (by decide +kernel) dX5_has_26 h
      · have h := h.2 q3
        refine P_iconst C dX5_has_21 (v := (1 : Int32)) rfl ?_
        refine P_goto C dX5_has_22 (tgt := 26) (by decide +kernel) ?_
        exact P_zret C (by decide +kernel) dX5_has_26 h
theorem fa_X5_comes_7 : FA RX5 wsX5_comes 7 5 1 "NineMowers$Numbers" := by
  show _ ∧ _ ∧ _ ∧ _
  exact ⟨by decide +kernel, fun _ h => List.mem_cons_of_mem _ (List.mem_append_right _ h), List.mem_of_getElem? (i := 1) rfl, Or.inl rfl⟩
theorem fa_X5_comes_13 : FA RX5 wsX5_comes 13 5 0 "NineMowers$Numbers" := by
  show _ ∧ _ ∧ _ ∧ _
  exact ⟨by decide +kernel, fun _ h => List.mem_cons_of_mem _ (List.mem_append_right _ h), List.mem_of_getElem? (i := 2) rfl, Or.inl rfl⟩
theorem pa_X5_comes_7 : PA RX5 wsX5_comes 7 5 1 "NineMowers$Numbers" .int := by
  show _ ∧ _ ∧ _ ∧ _ ∧ _ ∧ _ ∧ _ ∧ _
  exact ⟨by decide +kernel, fun _ h => List.mem_cons_of_mem _ (List.mem_append_right _ h), List.mem_of_getElem? (i := 1) rfl, rfl, rfl, by decide +kernel, ⟨tyX5, tyX5_ok⟩, nmX5⟩
noncomputable def K_X5_comes (l : Launch) (V : Vx) (c0 : Nat) (a1 : Int32) (σ : Sg) (Qk : Sg → Prop) : Prop := Ka l V yX5_comes wsX5_comes (rmz 0) 0 0 [.ref c0, .int a1] σ (QV V Qk)
theorem e_X5_comes {l : Launch} {V : Vx} {c0 : Nat} {a1 : Int32} {σ : Sg} {Qk : Sg → Prop} (h : ∀ M : Mx, mL M = l → mV M = V → mN M = 2 → Cx M cX5_comes none RX5 wsX5_comes (rmz 0) 0 0 (QV (mV M) Qk) → PS M 0 [(0, .ref c0), (1, .int a1)] [] σ (0, 0)) : K_X5_comes l V c0 a1 σ Qk :=
  Ka_of (by decide +kernel) rfl rfl (Nat.le_of_ble_eq_true rfl) (fun M h1 h2 h3 C => h M h1 h2 h3 (by rw [h2]; exact C))
set_option maxRecDepth 100000 in
set_option maxHeartbeats 4000000 in
theorem s_X5_comes_0 {M : Mx} {Qk : Sg → Prop} (C : Cx M cX5_comes none RX5 wsX5_comes (rmz 0) 0 0 (QV (mV M) Qk)) (hN : mN M = 2) {c0 : Nat} {a1 : Int32} (hc0 : isN c0) {σ : Sg} (h : (((Int32.ofNat (nl c0)) ≤ (gi σ c0 1) → (∀ σ2 : Sg, σ2 = si σ c0 1 ((gi σ c0 1) + (1 : Int32)) → Qk σ2)) ∧ (¬ (Int32.ofNat (nl c0)) ≤ (gi σ c0 1) → (vp_in (gi σ c0 1) (nl c0) ∧ (∀ σ4 : Sg, σ4 = si σ (c0 + 1) (gi σ c0 1).toNatClampNeg a1 → (∀ σ5 : Sg, σ5 = si σ4 c0 1 ((gi σ4 c0 1) + (1 : Int32)) → Qk σ5)))))) : PS M 0 [(0, .ref c0), (1, .int a1)] [] σ (0, 0) := by
  refine P_aload_n C dX5_comes_0 0 rfl ?_
  refine P_getI C fa_X5_comes_7 (kdN_0 hc0) rfl (fxl (fxN_0 hc0)) dX5_comes_1 ?_
  refine P_aload_n C dX5_comes_4 0 rfl ?_
  refine P_getS C (e := (c0 + 1)) fa_X5_comes_13 (kdN_0 hc0) (d := 1) rfl (fxl (fxN_0 hc0)) rfl dX5_comes_5 ?_
  refine P_alen C (kdN_1 hc0) (by decide +kernel) (fxl (fxN_1 hc0)) (v := Int32.ofNat (nl c0)) rfl dX5_comes_8 ?_
  refine P_icmp_ge C dX5_comes_9 (tgt := 22) (by decide +kernel) (fun q1 => ?_) (fun q1 => ?_)
  · have h := h.1 q1
    refine P_aload_n C dX5_comes_22 0 rfl ?_
    refine P_dup C dX5_comes_23 rfl ?_
    refine P_getI C fa_X5_comes_7 (kdN_0 hc0) rfl (fxl (fxN_0 hc0)) dX5_comes_24 ?_
    refine P_iconst C dX5_comes_27 (v := (1 : Int32)) rfl ?_
    refine P_iadd C dX5_comes_28 ?_
    refine P_putI C pa_X5_comes_7 (kdN_0 hc0) rfl (fxl (fxN_0 hc0)) dX5_comes_29 ?_
    refine P_nm (fun σ2 eσ2 => ?_)
    have h := h σ2 eσ2
    exact P_vret C dX5_comes_32 h
  · have h := h.2 q1
    refine P_aload_n C dX5_comes_12 0 rfl ?_
    refine P_getS C (e := (c0 + 1)) fa_X5_comes_13 (kdN_0 hc0) (d := 1) rfl (fxl (fxN_0 hc0)) rfl dX5_comes_13 ?_
    refine P_aload_n C dX5_comes_16 0 rfl ?_
    refine P_getI C fa_X5_comes_7 (kdN_0 hc0) rfl (fxl (fxN_0 hc0)) dX5_comes_17 ?_
    refine P_iload_n C dX5_comes_20 1 rfl ?_
    obtain ⟨hv3, h⟩ := h
    refine P_iast C (kdN_1 hc0) (fxl (fxN_1 hc0)) hv3 dX5_comes_21 ?_
    refine P_nm (fun σ4 eσ4 => ?_)
    have h := h σ4 eσ4
    refine P_aload_n C dX5_comes_22 0 rfl ?_
    refine P_dup C dX5_comes_23 rfl ?_
    refine P_getI C fa_X5_comes_7 (kdN_0 hc0) rfl (fxl (fxN_0 hc0)) dX5_comes_24 ?_
    refine P_iconst C dX5_comes_27 (v := (1 : Int32)) rfl ?_
    refine P_iadd C dX5_comes_28 ?_
    refine P_putI C pa_X5_comes_7 (kdN_0 hc0) rfl (fxl (fxN_0 hc0)) dX5_comes_29 ?_
    refine P_nm (fun σ5 eσ5 => ?_)
    have h := h σ5 eσ5
    exact P_vret C dX5_comes_32 h
theorem fa_X5_becomes_7 : FA RX5 wsX5_becomes 7 5 1 "NineMowers$Numbers" := by
  show _ ∧ _ ∧ _ ∧ _
  exact ⟨by decide +kernel, fun _ h => List.mem_cons_of_mem _ (List.mem_append_right _ h), List.mem_of_getElem? (i := 1) rfl, Or.inl rfl⟩
theorem pa_X5_becomes_7 : PA RX5 wsX5_becomes 7 5 1 "NineMowers$Numbers" .int := by
  show _ ∧ _ ∧ _ ∧ _ ∧ _ ∧ _ ∧ _ ∧ _
  exact ⟨by decide +kernel, fun _ h => List.mem_cons_of_mem _ (List.mem_append_right _ h), List.mem_of_getElem? (i := 1) rfl, rfl, rfl, by decide +kernel, ⟨tyX5, tyX5_ok⟩, nmX5⟩
theorem fa_X5_becomes_13 : FA RX5 wsX5_becomes 13 5 0 "NineMowers$Numbers" := by
  show _ ∧ _ ∧ _ ∧ _
  exact ⟨by decide +kernel, fun _ h => List.mem_cons_of_mem _ (List.mem_append_right _ h), List.mem_of_getElem? (i := 2) rfl, Or.inl rfl⟩
theorem km_X5_becomes_min : KM RX5 wsX5_becomes 17 Lib.Math.min.name Lib.Math.min.code := ⟨List.mem_of_getElem? (i := 3) rfl, List.mem_of_getElem? (i := 4) rfl, List.mem_of_getElem? (i := 5) rfl, List.mem_of_getElem? (i := 6) rfl⟩
theorem kc_X5_becomes_23 : KC RX5 wsX5_becomes 23 := ⟨List.mem_of_getElem? (i := 7) rfl, List.mem_of_getElem? (i := 8) rfl, List.mem_of_getElem? (i := 9) rfl, List.mem_of_getElem? (i := 10) rfl⟩
noncomputable def K_X5_becomes (l : Launch) (V : Vx) (c0 : Nat) (a1 : Nat) (σ : Sg) (Qk : Sg → Prop) : Prop := Ka l V yX5_becomes wsX5_becomes (rmz 1) 0 0 [.ref c0, .ref a1] σ (QV V Qk)
theorem e_X5_becomes {l : Launch} {V : Vx} {c0 : Nat} {a1 : Nat} {σ : Sg} {Qk : Sg → Prop} (h : ∀ M : Mx, mL M = l → mV M = V → mN M = 2 → Cx M cX5_becomes none RX5 wsX5_becomes (rmz 1) 0 0 (QV (mV M) Qk) → PS M 0 [(0, .ref c0), (1, .ref a1)] [] σ (0, 0)) : K_X5_becomes l V c0 a1 σ Qk :=
  Ka_of (by decide +kernel) rfl rfl (Nat.le_of_ble_eq_true rfl) (fun M h1 h2 h3 C => h M h1 h2 h3 (by rw [h2]; exact C))
set_option maxRecDepth 100000 in
set_option maxHeartbeats 4000000 in
theorem s_X5_becomes_0 {M : Mx} {Qk : Sg → Prop} (C : Cx M cX5_becomes none RX5 wsX5_becomes (rmz 1) 0 0 (QV (mV M) Qk)) (hN : mN M = 2) {c0 : Nat} {a1 : Nat} (hc0 : isN c0) (ha1 : isN a1) {σ : Sg} (h : (∀ σ1 : Sg, σ1 = si σ c0 1 (gi σ a1 1) → (∀ v2 : Int32, v2 = jmin (Int32.ofNat (nl c0)) (Int32.ofNat (nl a1)) → ((¬ (0 : Int32) < 0 ∧ ¬ (0 : Int32) < 0 ∧ ¬ v2 < 0 ∧ (0 : Int32).toNatClampNeg + v2.toNatClampNeg ≤ (nl a1) ∧ (0 : Int32).toNatClampNeg + v2.toNatClampNeg ≤ (nl c0)) ∧ (∀ σ3 : Sg, σ3 = sia σ1 (c0 + 1) (va_cpy (σ1.1 (a1 + 1)) (σ1.1 (c0 + 1)) (0 : Int32).toNatClampNeg (0 : Int32).toNatClampNeg v2.toNatClampNeg) → Qk σ3))))) : PS M 0 [(0, .ref c0), (1, .ref a1)] [] σ (0, 0) := by
  refine P_aload_n C dX5_becomes_0 0 rfl ?_
  refine P_aload_n C dX5_becomes_1 1 rfl ?_
  refine P_getI C fa_X5_becomes_7 (kdN_0 ha1) rfl (fxl (fxN_0 ha1)) dX5_becomes_2 ?_
  refine P_putI C pa_X5_becomes_7 (kdN_0 hc0) rfl (fxl (fxN_0 hc0)) dX5_becomes_5 ?_
  refine P_nm (fun σ1 eσ1 => ?_)
  have h := h σ1 eσ1
  refine P_aload_n C dX5_becomes_8 1 rfl ?_
  refine P_getS C (e := (a1 + 1)) fa_X5_becomes_13 (kdN_0 ha1) (d := 1) rfl (fxl (fxN_0 ha1)) rfl dX5_becomes_9 ?_
  refine P_iconst C dX5_becomes_12 (v := (0 : Int32)) rfl ?_
  refine P_aload_n C dX5_becomes_13 0 rfl ?_
  refine P_getS C (e := (c0 + 1)) fa_X5_becomes_13 (kdN_0 hc0) (d := 1) rfl (fxl (fxN_0 hc0)) rfl dX5_becomes_14 ?_
  refine P_iconst C dX5_becomes_17 (v := (0 : Int32)) rfl ?_
  refine P_aload_n C dX5_becomes_18 0 rfl ?_
  refine P_getS C (e := (c0 + 1)) fa_X5_becomes_13 (kdN_0 hc0) (d := 1) rfl (fxl (fxN_0 hc0)) rfl dX5_becomes_19 ?_
  refine P_alen C (kdN_1 hc0) (by decide +kernel) (fxl (fxN_1 hc0)) (v := Int32.ofNat (nl c0)) rfl dX5_becomes_22 ?_
  refine P_aload_n C dX5_becomes_23 1 rfl ?_
  refine P_getS C (e := (a1 + 1)) fa_X5_becomes_13 (kdN_0 ha1) (d := 1) rfl (fxl (fxN_0 ha1)) rfl dX5_becomes_24 ?_
  refine P_alen C (kdN_1 ha1) (by decide +kernel) (fxl (fxN_1 ha1)) (v := Int32.ofNat (nl a1)) rfl dX5_becomes_27 ?_
  refine P_min C km_X5_becomes_min (by decide +kernel) (Nat.le_of_ble_eq_true rfl) ⟨Nat.le_refl _, Nat.le_refl _⟩ dX5_becomes_28 ?_
  refine P_nmi (fun v2 ev2 => ?_)
  have h := h v2 ev2
  obtain ⟨⟨cq1, cq2, cq3, cq4, cq5⟩, h⟩ := h
  refine P_copyi C kc_X5_becomes_23 (kdN_1 ha1) (fxl (fxN_1 ha1)) (kdN_1 hc0) (fxl (fxN_1 hc0)) cq1 cq2 cq3 cq4 cq5 (by decide +kernel) (Nat.le_of_ble_eq_true rfl) dX5_becomes_31 ?_
  refine P_nm (fun σ3 eσ3 => ?_)
  have h := h σ3 eσ3
  exact P_vret C dX5_becomes_34 h
theorem fa_X9_isEmpty_13 : FA RX9 wsX9_isEmpty 13 9 1 "NineMowers$Tape" := by
  show _ ∧ _ ∧ _ ∧ _
  exact ⟨by decide +kernel, fun _ h => List.mem_cons_of_mem _ (List.mem_append_right _ h), List.mem_of_getElem? (i := 1) rfl, Or.inl rfl⟩
noncomputable def K_X9_isEmpty (l : Launch) (V : Vx) (c0 : Nat) (σ : Sg) (Qk : Int32 → Sg → Prop) : Prop := Ka l V yX9_isEmpty wsX9_isEmpty (rmz 0) 0 0 [.ref c0] σ (QI V Qk)
theorem e_X9_isEmpty {l : Launch} {V : Vx} {c0 : Nat} {σ : Sg} {Qk : Int32 → Sg → Prop} (h : ∀ M : Mx, mL M = l → mV M = V → mN M = 1 → Cx M cX9_isEmpty (some .boolean) RX9 wsX9_isEmpty (rmz 0) 0 0 (QI (mV M) Qk) → PS M 0 [(0, .ref c0)] [] σ (0, 0)) : K_X9_isEmpty l V c0 σ Qk :=
  Ka_of (by decide +kernel) rfl rfl (Nat.le_of_ble_eq_true rfl) (fun M h1 h2 h3 C => h M h1 h2 h3 (by rw [h2]; exact C))
set_option maxRecDepth 100000 in
set_option maxHeartbeats 4000000 in
theorem s_X9_isEmpty_0 {M : Mx} {Qk : Int32 → Sg → Prop} (C : Cx M cX9_isEmpty (some .boolean) RX9 wsX9_isEmpty (rmz 0) 0 0 (QI (mV M) Qk)) (hN : mN M = 1) {c0 : Nat} (hc0 : isT c0) {σ : Sg} (h : ((0 ≤ (gi σ c0 1) → Qk (0 : Int32) σ) ∧ (¬ 0 ≤ (gi σ c0 1) → Qk (1 : Int32) σ))) : PS M 0 [(0, .ref c0)] [] σ (0, 0) := by
  refine P_aload_n C dX9_isEmpty_0 0 rfl ?_
  refine P_getI C fa_X9_isEmpty_13 (kdT_0 hc0) rfl (fxl (fxT_0 hc0)) dX9_isEmpty_1 ?_
  refine P_if_ge C dX9_isEmpty_4 (tgt := 11) (by decide +kernel) (fun q1 => ?_) (fun q1 => ?_)
  · have h := h.1 q1
    refine P_iconst C dX9_isEmpty_11 (v := (0 : Int32)) rfl ?_
    exact P_zret C (by decide +kernel) dX9_isEmpty_12 h
  · have h := h.2 q1
    refine P_iconst C dX9_isEmpty_7 (v := (1 : Int32)) rfl ?_
    refine P_goto C dX9_isEmpty_8 (tgt := 12) (by decide +kernel) ?_
    exact P_zret C (by decide +kernel) dX9_isEmpty_12 h
theorem fa_X9_has_17 : FA RX9 wsX9_has 17 9 2 "NineMowers$Tape" := by
  show _ ∧ _ ∧ _ ∧ _
  exact ⟨by decide +kernel, fun _ h => List.mem_cons_of_mem _ (List.mem_append_right _ h), List.mem_of_getElem? (i := 1) rfl, Or.inl rfl⟩
noncomputable def K_X9_has (l : Launch) (V : Vx) (c0 : Nat) (a1 : Int32) (σ : Sg) (Qk : Int32 → Sg → Prop) : Prop := Ka l V yX9_has wsX9_has (rmz 0) 0 0 [.ref c0, .int a1] σ (QI V Qk)
theorem e_X9_has {l : Launch} {V : Vx} {c0 : Nat} {a1 : Int32} {σ : Sg} {Qk : Int32 → Sg → Prop} (h : ∀ M : Mx, mL M = l → mV M = V → mN M = 2 → Cx M cX9_has (some .boolean) RX9 wsX9_has (rmz 0) 0 0 (QI (mV M) Qk) → PS M 0 [(0, .ref c0), (1, .int a1)] [] σ (0, 0)) : K_X9_has l V c0 a1 σ Qk :=
  Ka_of (by decide +kernel) rfl rfl (Nat.le_of_ble_eq_true rfl) (fun M h1 h2 h3 C => h M h1 h2 h3 (by rw [h2]; exact C))
set_option maxRecDepth 100000 in
set_option maxHeartbeats 4000000 in
theorem s_X9_has_0 {M : Mx} {Qk : Int32 → Sg → Prop} (C : Cx M cX9_has (some .boolean) RX9 wsX9_has (rmz 0) 0 0 (QI (mV M) Qk)) (hN : mN M = 2) {c0 : Nat} {a1 : Int32} (hc0 : isT c0) {σ : Sg} (h : ((a1 < 0 → Qk (0 : Int32) σ) ∧ (¬ a1 < 0 → (((gi σ c0 2) ≤ a1 → Qk (0 : Int32) σ) ∧ (¬ (gi σ c0 2) ≤ a1 → Qk (1 : Int32) σ))))) : PS M 0 [(0, .ref c0), (1, .int a1)] [] σ (0, 0) := by
  refine P_iload_n C dX9_has_0 1 rfl ?_
  refine P_if_lt C dX9_has_1 (tgt := 16) (by decide +kernel) (fun q1 => ?_) (fun q1 => ?_)
  · have h := h.1 q1
    refine P_iconst C dX9_has_16 (v := (0 : Int32)) rfl ?_
    exact P_zret C (by decide +kernel) dX9_has_17 h
  · have h := h.2 q1
    refine P_iload_n C dX9_has_4 1 rfl ?_
    refine P_aload_n C dX9_has_5 0 rfl ?_
    refine P_getI C fa_X9_has_17 (kdT_0 hc0) rfl (fxl (fxT_0 hc0)) dX9_has_6 ?_
    refine P_icmp_ge C dX9_has_9 (tgt := 16) (by decide +kernel) (fun q2 => ?_) (fun q2 => ?_)
    · have h := h.1 q2
      refine P_iconst C dX9_has_16 (v := (0 : Int32)) rfl ?_
      exact P_zret C (by decide +kernel) dX9_has_17 h
    · have h := h.2 q2
      refine P_iconst C dX9_has_12 (v := (1 : Int32)) rfl ?_
      refine P_goto C dX9_has_13 (tgt := 17) (by decide +kernel) ?_
      exact P_zret C (by decide +kernel) dX9_has_17 h
theorem fa_X9_hasPart_17 : FA RX9 wsX9_hasPart 17 9 2 "NineMowers$Tape" := by
  show _ ∧ _ ∧ _ ∧ _
  exact ⟨by decide +kernel, fun _ h => List.mem_cons_of_mem _ (List.mem_append_right _ h), List.mem_of_getElem? (i := 1) rfl, Or.inl rfl⟩
noncomputable def K_X9_hasPart (l : Launch) (V : Vx) (c0 : Nat) (a1 : Int32) (a2 : Int32) (σ : Sg) (Qk : Int32 → Sg → Prop) : Prop := Ka l V yX9_hasPart wsX9_hasPart (rmz 0) 0 0 [.ref c0, .int a1, .int a2] σ (QI V Qk)
theorem e_X9_hasPart {l : Launch} {V : Vx} {c0 : Nat} {a1 : Int32} {a2 : Int32} {σ : Sg} {Qk : Int32 → Sg → Prop} (h : ∀ M : Mx, mL M = l → mV M = V → mN M = 3 → Cx M cX9_hasPart (some .boolean) RX9 wsX9_hasPart (rmz 0) 0 0 (QI (mV M) Qk) → PS M 0 [(0, .ref c0), (1, .int a1), (2, .int a2)] [] σ (0, 0)) : K_X9_hasPart l V c0 a1 a2 σ Qk :=
  Ka_of (by decide +kernel) rfl rfl (Nat.le_of_ble_eq_true rfl) (fun M h1 h2 h3 C => h M h1 h2 h3 (by rw [h2]; exact C))
set_option maxRecDepth 100000 in
set_option maxHeartbeats 4000000 in
theorem s_X9_hasPart_0 {M : Mx} {Qk : Int32 → Sg → Prop} (C : Cx M cX9_hasPart (some .boolean) RX9 wsX9_hasPart (rmz 0) 0 0 (QI (mV M) Qk)) (hN : mN M = 3) {c0 : Nat} {a1 : Int32} {a2 : Int32} (hc0 : isT c0) {σ : Sg} (h : ((a2 < 0 → Qk (0 : Int32) σ) ∧ (¬ a2 < 0 → ((a1 < 0 → Qk (0 : Int32) σ) ∧ (¬ a1 < 0 → (((gi σ c0 2) < a2 → Qk (0 : Int32) σ) ∧ (¬ (gi σ c0 2) < a2 → ((((gi σ c0 2) - a2) < a1 → Qk (0 : Int32) σ) ∧ (¬ ((gi σ c0 2) - a2) < a1 → Qk (1 : Int32) σ))))))))) : PS M 0 [(0, .ref c0), (1, .int a1), (2, .int a2)] [] σ (0, 0) := by
  refine P_iload_n C dX9_hasPart_0 2 rfl ?_
  refine P_if_lt C dX9_hasPart_1 (tgt := 30) (by decide +kernel) (fun q1 => ?_) (fun q1 => ?_)
  · have h := h.1 q1
    refine P_iconst C dX9_hasPart_30 (v := (0 : Int32)) rfl ?_
    exact P_zret C (by decide +kernel) dX9_hasPart_31 h
  · have h := h.2 q1
    refine P_iload_n C dX9_hasPart_4 1 rfl ?_
    refine P_if_lt C dX9_hasPart_5 (tgt := 30) (by decide +kernel) (fun q2 => ?_) (fun q2 => ?_)
    · have h := h.1 q2
      refine P_iconst C dX9_hasPart_30 (v := (0 : Int32)) rfl ?_
      exact P_zret C (by decide +kernel) dX9_hasPart_31 h
    · have h := h.2 q2
      refine P_iload_n C dX9_hasPart_8 2 rfl ?_
      refine P_aload_n C dX9_hasPart_9 0 rfl ?_
      refine P_getI C fa_X9_hasPart_17 (kdT_0 hc0) rfl (fxl (fxT_0 hc0)) dX9_hasPart_10 ?_
      refine P_icmp_gt C dX9_hasPart_13 (tgt := 30) (by decide +kernel) (fun q3 => ?_) (fun q3 => ?_)
      · have h := h.1 q3
        refine P_iconst C dX9_hasPart_30 (v := (0 : Int32)) rfl ?_
        exact P_zret C (by decide +kernel) dX9_hasPart_31 h
      · have h := h.2 q3
        refine P_iload_n C dX9_hasPart_16 1 rfl ?_
        refine P_aload_n C dX9_hasPart_17 0 rfl ?_
        refine P_getI C fa_X9_hasPart_17 (kdT_0 hc0) rfl (fxl (fxT_0 hc0)) dX9_hasPart_18 ?_
        refine P_iload_n C dX9_hasPart_21 2 rfl ?_
        refine P_isub C dX9_hasPart_22 ?_
        refine P_icmp_gt C dX9_hasPart_23 (tgt := 30) (by decide +kernel) (fun q4 => ?_) (fun q4 => ?_)
        · have h := h.1 q4
          refine P_iconst C dX9_hasPart_30 (v := (0 : Int32)) rfl ?_
          exact P_zret C (by decide +kernel) dX9_hasPart_31 h
        · have h := h.2 q4
          refine P_iconst C dX9_hasPart_26 (v := (1 : Int32)) rfl ?_
          refine P_goto C dX9_hasPart_27 (tgt := 31) (by decide +kernel) ?_
          exact P_zret C (by decide +kernel) dX9_hasPart_31 h
theorem fa_X9_cut_13 : FA RX9 wsX9_cut 13 9 1 "NineMowers$Tape" := by
  show _ ∧ _ ∧ _ ∧ _
  exact ⟨by decide +kernel, fun _ h => List.mem_cons_of_mem _ (List.mem_append_right _ h), List.mem_of_getElem? (i := 1) rfl, Or.inl rfl⟩
noncomputable def K_X9_cut (l : Launch) (V : Vx) (c0 : Nat) (a1 : Int64) (σ : Sg) (Qk : Int64 → Sg → Prop) : Prop := Ka l V yX9_cut wsX9_cut (rmz 0) 0 0 [.ref c0, .long a1] σ (QL V Qk)
theorem e_X9_cut {l : Launch} {V : Vx} {c0 : Nat} {a1 : Int64} {σ : Sg} {Qk : Int64 → Sg → Prop} (h : ∀ M : Mx, mL M = l → mV M = V → mN M = 3 → Cx M cX9_cut (some .long) RX9 wsX9_cut (rmz 0) 0 0 (QL (mV M) Qk) → PS M 0 [(0, .ref c0), (1, .long a1)] [] σ (0, 0)) : K_X9_cut l V c0 a1 σ Qk :=
  Ka_of (by decide +kernel) rfl rfl (Nat.le_of_ble_eq_true rfl) (fun M h1 h2 h3 C => h M h1 h2 h3 (by rw [h2]; exact C))
set_option maxRecDepth 100000 in
set_option maxHeartbeats 4000000 in
theorem s_X9_cut_0 {M : Mx} {Qk : Int64 → Sg → Prop} (C : Cx M cX9_cut (some .long) RX9 wsX9_cut (rmz 0) 0 0 (QL (mV M) Qk)) (hN : mN M = 3) {c0 : Nat} {a1 : Int64} (hc0 : isT c0) {σ : Sg} (h : (((gi σ c0 1).toInt < 0 ∨ 4 < (gi σ c0 1).toInt → Qk a1 σ) ∧ ((gi σ c0 1).toInt = 0 → Qk a1.toInt32.toInt8.toInt32.toInt64 σ) ∧ ((gi σ c0 1).toInt = 1 → Qk a1.toInt32.toInt16.toInt32.toInt64 σ) ∧ ((gi σ c0 1).toInt = 2 → Qk a1.toInt32.toInt64 σ) ∧ ((gi σ c0 1).toInt = 3 → Qk a1 σ) ∧ ((gi σ c0 1).toInt = 4 → (((lg_cmp a1 (0 : Int64)) = 0 → Qk (0 : Int64) σ) ∧ (¬ (lg_cmp a1 (0 : Int64)) = 0 → Qk (1 : Int64) σ))))) : PS M 0 [(0, .ref c0), (1, .long a1)] [] σ (0, 0) := by
  refine P_aload_n C dX9_cut_0 0 rfl ?_
  refine P_getI C fa_X9_cut_13 (kdT_0 hc0) rfl (fxl (fxT_0 hc0)) dX9_cut_1 ?_
  refine P_tsw C dX9_cut_4 66 (by decide +kernel) (fun q1 => ?_) (by decide +kernel) (fun i off ho q1 => ?_)
  · have h := h.1 q1
    refine P_lload_n C dX9_cut_66 1 rfl ?_
    exact P_lret C dX9_cut_67 h
  · rcases i with _ | _ | _ | _ | _ | i
    · obtain rfl : (36 : Int) = off := Option.some.inj ho
      refine ⟨?_, by decide +kernel⟩
      show PS M 40 _ _ _ _
      have h := h.2.1 (by have q := q1; simp at q; omega)
      refine P_lload_n C dX9_cut_40 1 rfl ?_
      refine P_l2i C dX9_cut_41 ?_
      refine P_i2b C dX9_cut_42 ?_
      refine P_i2l C dX9_cut_43 ?_
      exact P_lret C dX9_cut_44 h
    · obtain rfl : (41 : Int) = off := Option.some.inj ho
      refine ⟨?_, by decide +kernel⟩
      show PS M 45 _ _ _ _
      have h := h.2.2.1 (by have q := q1; simp at q; omega)
      refine P_lload_n C dX9_cut_45 1 rfl ?_
      refine P_l2i C dX9_cut_46 ?_
      refine P_i2s C dX9_cut_47 ?_
      refine P_i2l C dX9_cut_48 ?_
      exact P_lret C dX9_cut_49 h
    · obtain rfl : (46 : Int) = off := Option.some.inj ho
      refine ⟨?_, by decide +kernel⟩
      show PS M 50 _ _ _ _
      have h := h.2.2.2.1 (by have q := q1; simp at q; omega)
      refine P_lload_n C dX9_cut_50 1 rfl ?_
      refine P_l2i C dX9_cut_51 ?_
      refine P_i2l C dX9_cut_52 ?_
      exact P_lret C dX9_cut_53 h
    · obtain rfl : (62 : Int) = off := Option.some.inj ho
      refine ⟨?_, by decide +kernel⟩
      show PS M 66 _ _ _ _
      have h := h.2.2.2.2.1 (by have q := q1; simp at q; omega)
      refine P_lload_n C dX9_cut_66 1 rfl ?_
      exact P_lret C dX9_cut_67 h
    · obtain rfl : (50 : Int) = off := Option.some.inj ho
      refine ⟨?_, by decide +kernel⟩
      show PS M 54 _ _ _ _
      have h := h.2.2.2.2.2 (by have q := q1; simp at q; omega)
      refine P_lload_n C dX9_cut_54 1 rfl ?_
      refine P_lconst C dX9_cut_55 (v := (0 : Int64)) rfl ?_
      refine P_lcmp C dX9_cut_56 ?_
      refine P_if_eq C dX9_cut_57 (tgt := 64) (by decide +kernel) (fun q2 => ?_) (fun q2 => ?_)
      · have h := h.1 q2
        refine P_lconst C dX9_cut_64 (v := (0 : Int64)) rfl ?_
        exact P_lret C dX9_cut_65 h
      · have h := h.2 q2
        refine P_lconst C dX9_cut_60 (v := (1 : Int64)) rfl ?_
        refine P_goto C dX9_cut_61 (tgt := 65) (by decide +kernel) ?_
        exact P_lret C dX9_cut_65 h
    · exact absurd (Array.getElem?_eq_some_iff.mp ho).1 (Nat.not_lt.mpr (by show 5 ≤ _; omega))
theorem fa_X1_becomes_17 : FA RX1 wsX1_becomes 17 1 1 "NineMowers$Course" := by
  show _ ∧ _ ∧ _ ∧ _
  exact ⟨by decide +kernel, fun _ h => List.mem_cons_of_mem _ (List.mem_append_right _ h), List.mem_of_getElem? (i := 1) rfl, Or.inl rfl⟩
theorem pa_X1_becomes_17 : PA RX1 wsX1_becomes 17 1 1 "NineMowers$Course" .int := by
  show _ ∧ _ ∧ _ ∧ _ ∧ _ ∧ _ ∧ _ ∧ _
  exact ⟨by decide +kernel, fun _ h => List.mem_cons_of_mem _ (List.mem_append_right _ h), List.mem_of_getElem? (i := 1) rfl, rfl, rfl, by decide +kernel, ⟨tyX1, tyX1_ok⟩, nmX1⟩
theorem fa_X1_becomes_25 : FA RX1 wsX1_becomes 25 1 3 "NineMowers$Course" := by
  show _ ∧ _ ∧ _ ∧ _
  exact ⟨by decide +kernel, fun _ h => List.mem_cons_of_mem _ (List.mem_append_right _ h), List.mem_of_getElem? (i := 2) rfl, Or.inl rfl⟩
theorem pa_X1_becomes_25 : PA RX1 wsX1_becomes 25 1 3 "NineMowers$Course" .int := by
  show _ ∧ _ ∧ _ ∧ _ ∧ _ ∧ _ ∧ _ ∧ _
  exact ⟨by decide +kernel, fun _ h => List.mem_cons_of_mem _ (List.mem_append_right _ h), List.mem_of_getElem? (i := 2) rfl, rfl, rfl, by decide +kernel, ⟨tyX1, tyX1_ok⟩, nmX1⟩
theorem fa_X1_becomes_43 : FA RX1 wsX1_becomes 43 1 9 "NineMowers$Course" := by
  show _ ∧ _ ∧ _ ∧ _
  exact ⟨by decide +kernel, fun _ h => List.mem_cons_of_mem _ (List.mem_append_right _ h), List.mem_of_getElem? (i := 3) rfl, Or.inl rfl⟩
theorem pa_X1_becomes_43 : PA RX1 wsX1_becomes 43 1 9 "NineMowers$Course" .int := by
  show _ ∧ _ ∧ _ ∧ _ ∧ _ ∧ _ ∧ _ ∧ _
  exact ⟨by decide +kernel, fun _ h => List.mem_cons_of_mem _ (List.mem_append_right _ h), List.mem_of_getElem? (i := 3) rfl, rfl, rfl, by decide +kernel, ⟨tyX1, tyX1_ok⟩, nmX1⟩
theorem fa_X1_becomes_46 : FA RX1 wsX1_becomes 46 1 10 "NineMowers$Course" := by
  show _ ∧ _ ∧ _ ∧ _
  exact ⟨by decide +kernel, fun _ h => List.mem_cons_of_mem _ (List.mem_append_right _ h), List.mem_of_getElem? (i := 4) rfl, Or.inl rfl⟩
theorem pa_X1_becomes_46 : PA RX1 wsX1_becomes 46 1 10 "NineMowers$Course" (.object "NineMowers$Field") := by
  show _ ∧ _ ∧ _ ∧ _ ∧ _ ∧ _ ∧ _ ∧ _
  exact ⟨by decide +kernel, fun _ h => List.mem_cons_of_mem _ (List.mem_append_right _ h), List.mem_of_getElem? (i := 4) rfl, rfl, rfl, by decide +kernel, ⟨tyX1, tyX1_ok⟩, nmX1⟩
theorem fa_X1_becomes_50 : FA RX1 wsX1_becomes 50 1 11 "NineMowers$Course" := by
  show _ ∧ _ ∧ _ ∧ _
  exact ⟨by decide +kernel, fun _ h => List.mem_cons_of_mem _ (List.mem_append_right _ h), List.mem_of_getElem? (i := 5) rfl, Or.inl rfl⟩
theorem pa_X1_becomes_50 : PA RX1 wsX1_becomes 50 1 11 "NineMowers$Course" .int := by
  show _ ∧ _ ∧ _ ∧ _ ∧ _ ∧ _ ∧ _ ∧ _
  exact ⟨by decide +kernel, fun _ h => List.mem_cons_of_mem _ (List.mem_append_right _ h), List.mem_of_getElem? (i := 5) rfl, rfl, rfl, by decide +kernel, ⟨tyX1, tyX1_ok⟩, nmX1⟩
theorem fa_X1_becomes_40 : FA RX1 wsX1_becomes 40 1 8 "NineMowers$Course" := by
  show _ ∧ _ ∧ _ ∧ _
  exact ⟨by decide +kernel, fun _ h => List.mem_cons_of_mem _ (List.mem_append_right _ h), List.mem_of_getElem? (i := 12) rfl, Or.inl rfl⟩
theorem kc_X1_becomes_74 : KC RX1 wsX1_becomes 74 := ⟨List.mem_of_getElem? (i := 13) rfl, List.mem_of_getElem? (i := 14) rfl, List.mem_of_getElem? (i := 15) rfl, List.mem_of_getElem? (i := 16) rfl⟩
theorem fa_X1_becomes_11 : FA RX1 wsX1_becomes 11 1 0 "NineMowers$Course" := by
  show _ ∧ _ ∧ _ ∧ _
  exact ⟨by decide +kernel, fun _ h => List.mem_cons_of_mem _ (List.mem_append_right _ h), List.mem_of_getElem? (i := 6) rfl, Or.inl rfl⟩
theorem fa_X1_becomes_21 : FA RX1 wsX1_becomes 21 1 2 "NineMowers$Course" := by
  show _ ∧ _ ∧ _ ∧ _
  exact ⟨by decide +kernel, fun _ h => List.mem_cons_of_mem _ (List.mem_append_right _ h), List.mem_of_getElem? (i := 7) rfl, Or.inl rfl⟩
theorem fa_X1_becomes_28 : FA RX1 wsX1_becomes 28 1 4 "NineMowers$Course" := by
  show _ ∧ _ ∧ _ ∧ _
  exact ⟨by decide +kernel, fun _ h => List.mem_cons_of_mem _ (List.mem_append_right _ h), List.mem_of_getElem? (i := 8) rfl, Or.inl rfl⟩
theorem fa_X1_becomes_31 : FA RX1 wsX1_becomes 31 1 5 "NineMowers$Course" := by
  show _ ∧ _ ∧ _ ∧ _
  exact ⟨by decide +kernel, fun _ h => List.mem_cons_of_mem _ (List.mem_append_right _ h), List.mem_of_getElem? (i := 9) rfl, Or.inl rfl⟩
theorem fa_X1_becomes_34 : FA RX1 wsX1_becomes 34 1 6 "NineMowers$Course" := by
  show _ ∧ _ ∧ _ ∧ _
  exact ⟨by decide +kernel, fun _ h => List.mem_cons_of_mem _ (List.mem_append_right _ h), List.mem_of_getElem? (i := 10) rfl, Or.inl rfl⟩
theorem fa_X1_becomes_37 : FA RX1 wsX1_becomes 37 1 7 "NineMowers$Course" := by
  show _ ∧ _ ∧ _ ∧ _
  exact ⟨by decide +kernel, fun _ h => List.mem_cons_of_mem _ (List.mem_append_right _ h), List.mem_of_getElem? (i := 11) rfl, Or.inl rfl⟩
noncomputable def K_X1_becomes (l : Launch) (V : Vx) (c0 : Nat) (a1 : Nat) (σ : Sg) (Qk : Sg → Prop) : Prop := Ka l V yX1_becomes wsX1_becomes (rmz 1) 0 0 [.ref c0, .ref a1] σ (QV V Qk)
theorem e_X1_becomes {l : Launch} {V : Vx} {c0 : Nat} {a1 : Nat} {σ : Sg} {Qk : Sg → Prop} (h : ∀ M : Mx, mL M = l → mV M = V → mN M = 3 → Cx M cX1_becomes none RX1 wsX1_becomes (rmz 1) 0 0 (QV (mV M) Qk) → PS M 0 [(0, .ref c0), (1, .ref a1)] [] σ (0, 0)) : K_X1_becomes l V c0 a1 σ Qk :=
  Ka_of (by decide +kernel) rfl rfl (Nat.le_of_ble_eq_true rfl) (fun M h1 h2 h3 C => h M h1 h2 h3 (by rw [h2]; exact C))
set_option maxRecDepth 100000 in
set_option maxHeartbeats 4000000 in
theorem s_X1_becomes_0 {M : Mx} {Qk : Sg → Prop} (C : Cx M cX1_becomes none RX1 wsX1_becomes (rmz 1) 0 0 (QV (mV M) Qk)) (hN : mN M = 3) {c0 : Nat} {a1 : Nat} (hc0 : isC c0) (ha1 : isC a1) {σ : Sg} (h : (∀ σ1 : Sg, σ1 = si σ c0 1 (gi σ a1 1) → (∀ σ2 : Sg, σ2 = si σ1 c0 3 (gi σ1 a1 3) → (∀ σ3 : Sg, σ3 = si σ2 c0 9 (gi σ2 a1 9) → (∃ f4 : Nat, gr σ3 a1 10 = some f4 ∧ kd f4 = (12, 0) ∧ f4 ∈ ids (mV M) ∧ (∀ σ5 : Sg, σ5 = sr σ3 c0 10 (some f4) → (∀ σ6 : Sg, σ6 = si σ5 c0 11 (gi σ5 a1 11) → PS M 42 [(0, .ref c0), (1, .ref a1), (2, .int (0 : Int32))] [] σ6 (0, 0)))))))) : PS M 0 [(0, .ref c0), (1, .ref a1)] [] σ (0, 0) := by
  refine P_aload_n C dX1_becomes_0 0 rfl ?_
  refine P_aload_n C dX1_becomes_1 1 rfl ?_
  refine P_getI C fa_X1_becomes_17 (kdC_0 ha1) rfl (fxl (fxC_0 ha1)) dX1_becomes_2 ?_
  refine P_putI C pa_X1_becomes_17 (kdC_0 hc0) rfl (fxl (fxC_0 hc0)) dX1_becomes_5 ?_
  refine P_nm (fun σ1 eσ1 => ?_)
  have h := h σ1 eσ1
  refine P_aload_n C dX1_becomes_8 0 rfl ?_
  refine P_aload_n C dX1_becomes_9 1 rfl ?_
  refine P_getI C fa_X1_becomes_25 (kdC_0 ha1) rfl (fxl (fxC_0 ha1)) dX1_becomes_10 ?_
  refine P_putI C pa_X1_becomes_25 (kdC_0 hc0) rfl (fxl (fxC_0 hc0)) dX1_becomes_13 ?_
  refine P_nm (fun σ2 eσ2 => ?_)
  have h := h σ2 eσ2
  refine P_aload_n C dX1_becomes_16 0 rfl ?_
  refine P_aload_n C dX1_becomes_17 1 rfl ?_
  refine P_getI C fa_X1_becomes_43 (kdC_0 ha1) rfl (fxl (fxC_0 ha1)) dX1_becomes_18 ?_
  refine P_putI C pa_X1_becomes_43 (kdC_0 hc0) rfl (fxl (fxC_0 hc0)) dX1_becomes_21 ?_
  refine P_nm (fun σ3 eσ3 => ?_)
  have h := h σ3 eσ3
  refine P_aload_n C dX1_becomes_24 0 rfl ?_
  refine P_aload_n C dX1_becomes_25 1 rfl ?_
  obtain ⟨f4, hrf4, hf4, lf4, h⟩ := h
  refine P_getD C fa_X1_becomes_46 (kdC_0 ha1) rfl (fxl (fxC_0 ha1)) hrf4 dX1_becomes_26 ?_
  refine P_putD C pa_X1_becomes_46 (kdC_0 hc0) rfl (fxl (fxC_0 hc0)) (fun _ => rfl) (fun _ => rfl) dX1_becomes_29 ?_
  refine P_nm (fun σ5 eσ5 => ?_)
  have h := h σ5 eσ5
  refine P_aload_n C dX1_becomes_32 0 rfl ?_
  refine P_aload_n C dX1_becomes_33 1 rfl ?_
  refine P_getI C fa_X1_becomes_50 (kdC_0 ha1) rfl (fxl (fxC_0 ha1)) dX1_becomes_34 ?_
  refine P_putI C pa_X1_becomes_50 (kdC_0 hc0) rfl (fxl (fxC_0 hc0)) dX1_becomes_37 ?_
  refine P_nm (fun σ6 eσ6 => ?_)
  have h := h σ6 eσ6
  refine P_iconst C dX1_becomes_40 (v := (0 : Int32)) rfl ?_
  refine P_istore_n C dX1_becomes_41 (by rw [hN]; decide) rfl ?_
  exact P_sub [1, 2, 0] rfl h
set_option maxRecDepth 100000 in
set_option maxHeartbeats 4000000 in
theorem s_X1_becomes_42 {M : Mx} {Qk : Sg → Prop} (C : Cx M cX1_becomes none RX1 wsX1_becomes (rmz 1) 0 0 (QV (mV M) Qk)) (hN : mN M = 3) {x0 : Nat} {x1 : Nat} {x2 : Int32} (hx0 : isC x0) (hx1 : isC x1) {σ : Sg} (h : (((6 : Int32) ≤ x2 → ((¬ (0 : Int32) < 0 ∧ ¬ (0 : Int32) < 0 ∧ ¬ (24 : Int32) < 0 ∧ (0 : Int32).toNatClampNeg + (24 : Int32).toNatClampNeg ≤ 24 ∧ (0 : Int32).toNatClampNeg + (24 : Int32).toNatClampNeg ≤ 24) ∧ (∀ σ2 : Sg, σ2 = sia σ (x0 + 7) (va_cpy (σ.1 (x1 + 7)) (σ.1 (x0 + 7)) (0 : Int32).toNatClampNeg (0 : Int32).toNatClampNeg (24 : Int32).toNatClampNeg) → Qk σ2))) ∧ (¬ (6 : Int32) ≤ x2 → (vp_in x2 6 ∧ vp_in x2 6 ∧ (∀ μ6 : Nat, gr σ (x1 + 1) x2.toNatClampNeg = some μ6 → isW M μ6) ∧ (∀ σ5 : Sg, σ5 = sr σ (x0 + 1) x2.toNatClampNeg (gr σ (x1 + 1) x2.toNatClampNeg) → (vp_in x2 6 ∧ (vp_in x2 6 ∧ (∀ σ9 : Sg, σ9 = si σ5 (x0 + 2) x2.toNatClampNeg (gi σ5 (x1 + 2) x2.toNatClampNeg) → (vp_in x2 6 ∧ (vp_in x2 6 ∧ (∀ σ12 : Sg, σ12 = si σ9 (x0 + 3) x2.toNatClampNeg (gi σ9 (x1 + 3) x2.toNatClampNeg) → (vp_in x2 6 ∧ (vp_in x2 6 ∧ (∀ σ15 : Sg, σ15 = si σ12 (x0 + 4) x2.toNatClampNeg (gi σ12 (x1 + 4) x2.toNatClampNeg) → (vp_in x2 6 ∧ (vp_in x2 6 ∧ (∀ σ18 : Sg, σ18 = si σ15 (x0 + 5) x2.toNatClampNeg (gi σ15 (x1 + 5) x2.toNatClampNeg) → (vp_in x2 6 ∧ (vp_in x2 6 ∧ (∀ σ21 : Sg, σ21 = si σ18 (x0 + 6) x2.toNatClampNeg (gi σ18 (x1 + 6) x2.toNatClampNeg) → (∀ v22 : Int32, v22 = x2 + 1 → PS M 42 [(0, .ref x0), (1, .ref x1), (2, .int v22)] [] σ21 (0, 0)))))))))))))))))))))) : PS M 42 [(0, .ref x0), (1, .ref x1), (2, .int x2)] [] σ (0, 0) := by
  refine P_iload_n C dX1_becomes_42 2 rfl ?_
  refine P_bipush C dX1_becomes_43 (v := (6 : Int32)) rfl ?_
  refine P_icmp_ge C dX1_becomes_45 (tgt := 126) (by decide +kernel) (fun q1 => ?_) (fun q1 => ?_)
  · have h := h.1 q1
    refine P_aload_n C dX1_becomes_126 1 rfl ?_
    refine P_getS C (e := (x1 + 7)) fa_X1_becomes_40 (kdC_0 hx1) (d := 7) rfl (fxl (fxC_0 hx1)) rfl dX1_becomes_127 ?_
    refine P_iconst C dX1_becomes_130 (v := (0 : Int32)) rfl ?_
    refine P_aload_n C dX1_becomes_131 0 rfl ?_
    refine P_getS C (e := (x0 + 7)) fa_X1_becomes_40 (kdC_0 hx0) (d := 7) rfl (fxl (fxC_0 hx0)) rfl dX1_becomes_132 ?_
    refine P_iconst C dX1_becomes_135 (v := (0 : Int32)) rfl ?_
    refine P_aload_n C dX1_becomes_136 0 rfl ?_
    refine P_getS C (e := (x0 + 7)) fa_X1_becomes_40 (kdC_0 hx0) (d := 7) rfl (fxl (fxC_0 hx0)) rfl dX1_becomes_137 ?_
    refine P_alen C (kdC_7 hx0) (by decide +kernel) (fxl (fxC_7 hx0)) (v := (24 : Int32)) rfl dX1_becomes_140 ?_
    obtain ⟨⟨cq1, cq2, cq3, cq4, cq5⟩, h⟩ := h
    refine P_copyi C kc_X1_becomes_74 (kdC_7 hx1) (fxl (fxC_7 hx1)) (kdC_7 hx0) (fxl (fxC_7 hx0)) cq1 cq2 cq3 cq4 cq5 (by decide +kernel) (Nat.le_of_ble_eq_true rfl) dX1_becomes_141 ?_
    refine P_nm (fun σ2 eσ2 => ?_)
    have h := h σ2 eσ2
    exact P_vret C dX1_becomes_144 h
  · have h := h.2 q1
    refine P_aload_n C dX1_becomes_48 0 rfl ?_
    refine P_getS C (e := (x0 + 1)) fa_X1_becomes_11 (kdC_0 hx0) (d := 1) rfl (fxl (fxC_0 hx0)) rfl dX1_becomes_49 ?_
    refine P_iload_n C dX1_becomes_52 2 rfl ?_
    refine P_aload_n C dX1_becomes_53 1 rfl ?_
    refine P_getS C (e := (x1 + 1)) fa_X1_becomes_11 (kdC_0 hx1) (d := 1) rfl (fxl (fxC_0 hx1)) rfl dX1_becomes_54 ?_
    refine P_iload_n C dX1_becomes_57 2 rfl ?_
    obtain ⟨hv3, hv4, hμ6, h⟩ := h
    refine P_mcopy C (kdC_1 hx1) (fxl (fxC_1 hx1)) hv3 (kdC_1 hx0) (fxl (fxC_1 hx0)) hv4 hμ6 dX1_becomes_58 dX1_becomes_59 ?_
    refine P_nm (fun σ5 eσ5 => ?_)
    have h := h σ5 eσ5
    refine P_aload_n C dX1_becomes_60 0 rfl ?_
    refine P_getS C (e := (x0 + 2)) fa_X1_becomes_21 (kdC_0 hx0) (d := 2) rfl (fxl (fxC_0 hx0)) rfl dX1_becomes_61 ?_
    refine P_iload_n C dX1_becomes_64 2 rfl ?_
    refine P_aload_n C dX1_becomes_65 1 rfl ?_
    refine P_getS C (e := (x1 + 2)) fa_X1_becomes_21 (kdC_0 hx1) (d := 2) rfl (fxl (fxC_0 hx1)) rfl dX1_becomes_66 ?_
    refine P_iload_n C dX1_becomes_69 2 rfl ?_
    obtain ⟨hv7, h⟩ := h
    refine P_iald C (kdC_2 hx1) (fxl (fxC_2 hx1)) hv7 dX1_becomes_70 ?_
    obtain ⟨hv8, h⟩ := h
    refine P_iast C (kdC_2 hx0) (fxl (fxC_2 hx0)) hv8 dX1_becomes_71 ?_
    refine P_nm (fun σ9 eσ9 => ?_)
    have h := h σ9 eσ9
    refine P_aload_n C dX1_becomes_72 0 rfl ?_
    refine P_getS C (e := (x0 + 3)) fa_X1_becomes_28 (kdC_0 hx0) (d := 3) rfl (fxl (fxC_0 hx0)) rfl dX1_becomes_73 ?_
    refine P_iload_n C dX1_becomes_76 2 rfl ?_
    refine P_aload_n C dX1_becomes_77 1 rfl ?_
    refine P_getS C (e := (x1 + 3)) fa_X1_becomes_28 (kdC_0 hx1) (d := 3) rfl (fxl (fxC_0 hx1)) rfl dX1_becomes_78 ?_
    refine P_iload_n C dX1_becomes_81 2 rfl ?_
    obtain ⟨hv10, h⟩ := h
    refine P_iald C (kdC_3 hx1) (fxl (fxC_3 hx1)) hv10 dX1_becomes_82 ?_
    obtain ⟨hv11, h⟩ := h
    refine P_iast C (kdC_3 hx0) (fxl (fxC_3 hx0)) hv11 dX1_becomes_83 ?_
    refine P_nm (fun σ12 eσ12 => ?_)
    have h := h σ12 eσ12
    refine P_aload_n C dX1_becomes_84 0 rfl ?_
    refine P_getS C (e := (x0 + 4)) fa_X1_becomes_31 (kdC_0 hx0) (d := 4) rfl (fxl (fxC_0 hx0)) rfl dX1_becomes_85 ?_
    refine P_iload_n C dX1_becomes_88 2 rfl ?_
    refine P_aload_n C dX1_becomes_89 1 rfl ?_
    refine P_getS C (e := (x1 + 4)) fa_X1_becomes_31 (kdC_0 hx1) (d := 4) rfl (fxl (fxC_0 hx1)) rfl dX1_becomes_90 ?_
    refine P_iload_n C dX1_becomes_93 2 rfl ?_
    obtain ⟨hv13, h⟩ := h
    refine P_iald C (kdC_4 hx1) (fxl (fxC_4 hx1)) hv13 dX1_becomes_94 ?_
    obtain ⟨hv14, h⟩ := h
    refine P_iast C (kdC_4 hx0) (fxl (fxC_4 hx0)) hv14 dX1_becomes_95 ?_
    refine P_nm (fun σ15 eσ15 => ?_)
    have h := h σ15 eσ15
    refine P_aload_n C dX1_becomes_96 0 rfl ?_
    refine P_getS C (e := (x0 + 5)) fa_X1_becomes_34 (kdC_0 hx0) (d := 5) rfl (fxl (fxC_0 hx0)) rfl dX1_becomes_97 ?_
    refine P_iload_n C dX1_becomes_100 2 rfl ?_
    refine P_aload_n C dX1_becomes_101 1 rfl ?_
    refine P_getS C (e := (x1 + 5)) fa_X1_becomes_34 (kdC_0 hx1) (d := 5) rfl (fxl (fxC_0 hx1)) rfl dX1_becomes_102 ?_
    refine P_iload_n C dX1_becomes_105 2 rfl ?_
    obtain ⟨hv16, h⟩ := h
    refine P_iald C (kdC_5 hx1) (fxl (fxC_5 hx1)) hv16 dX1_becomes_106 ?_
    obtain ⟨hv17, h⟩ := h
    refine P_iast C (kdC_5 hx0) (fxl (fxC_5 hx0)) hv17 dX1_becomes_107 ?_
    refine P_nm (fun σ18 eσ18 => ?_)
    have h := h σ18 eσ18
    refine P_aload_n C dX1_becomes_108 0 rfl ?_
    refine P_getS C (e := (x0 + 6)) fa_X1_becomes_37 (kdC_0 hx0) (d := 6) rfl (fxl (fxC_0 hx0)) rfl dX1_becomes_109 ?_
    refine P_iload_n C dX1_becomes_112 2 rfl ?_
    refine P_aload_n C dX1_becomes_113 1 rfl ?_
    refine P_getS C (e := (x1 + 6)) fa_X1_becomes_37 (kdC_0 hx1) (d := 6) rfl (fxl (fxC_0 hx1)) rfl dX1_becomes_114 ?_
    refine P_iload_n C dX1_becomes_117 2 rfl ?_
    obtain ⟨hv19, h⟩ := h
    refine P_iald C (kdC_6 hx1) (fxl (fxC_6 hx1)) hv19 dX1_becomes_118 ?_
    obtain ⟨hv20, h⟩ := h
    refine P_iast C (kdC_6 hx0) (fxl (fxC_6 hx0)) hv20 dX1_becomes_119 ?_
    refine P_nm (fun σ21 eσ21 => ?_)
    have h := h σ21 eσ21
    obtain ⟨v22, ev22⟩ : ∃ v : Int32, v = x2 + 1 := ⟨_, rfl⟩
    have h := h v22 ev22
    refine P_iinc (v := v22) C dX1_becomes_120 2 rfl (by rw [ev22]; rfl) (by rw [hN]; decide) rfl ?_
    refine P_goto C dX1_becomes_123 (tgt := 42) (by decide +kernel) ?_
    exact P_sub [1, 2, 0] rfl h
theorem fa_X1_comes_84 : FA RX1 wsX1_comes 84 4 1 "NineMowers$Mower" := by
  show _ ∧ _ ∧ _ ∧ _
  exact ⟨by decide +kernel, fun _ h => List.mem_cons_of_mem _ (List.mem_append_left _ (List.mem_append_left _ (List.mem_append_left _ (List.mem_append_left _ (List.mem_append_left _ (List.mem_append_right _ h)))))), List.mem_of_getElem? (i := 1) rfl, Or.inl rfl⟩
theorem fa_X1_comes_11 : FA RX1 wsX1_comes 11 1 0 "NineMowers$Course" := by
  show _ ∧ _ ∧ _ ∧ _
  exact ⟨by decide +kernel, fun _ h => List.mem_cons_of_mem _ (List.mem_append_right _ h), List.mem_of_getElem? (i := 2) rfl, Or.inl rfl⟩
theorem fa_X1_comes_31 : FA RX1 wsX1_comes 31 1 5 "NineMowers$Course" := by
  show _ ∧ _ ∧ _ ∧ _
  exact ⟨by decide +kernel, fun _ h => List.mem_cons_of_mem _ (List.mem_append_right _ h), List.mem_of_getElem? (i := 3) rfl, Or.inl rfl⟩
theorem fa_X1_comes_21 : FA RX1 wsX1_comes 21 1 2 "NineMowers$Course" := by
  show _ ∧ _ ∧ _ ∧ _
  exact ⟨by decide +kernel, fun _ h => List.mem_cons_of_mem _ (List.mem_append_right _ h), List.mem_of_getElem? (i := 4) rfl, Or.inl rfl⟩
theorem fa_X1_comes_17 : FA RX1 wsX1_comes 17 1 1 "NineMowers$Course" := by
  show _ ∧ _ ∧ _ ∧ _
  exact ⟨by decide +kernel, fun _ h => List.mem_cons_of_mem _ (List.mem_append_right _ h), List.mem_of_getElem? (i := 5) rfl, Or.inl rfl⟩
theorem pa_X1_comes_17 : PA RX1 wsX1_comes 17 1 1 "NineMowers$Course" .int := by
  show _ ∧ _ ∧ _ ∧ _ ∧ _ ∧ _ ∧ _ ∧ _
  exact ⟨by decide +kernel, fun _ h => List.mem_cons_of_mem _ (List.mem_append_right _ h), List.mem_of_getElem? (i := 5) rfl, rfl, rfl, by decide +kernel, ⟨tyX1, tyX1_ok⟩, nmX1⟩
theorem pa_X1_comes_25 : PA RX1 wsX1_comes 25 1 3 "NineMowers$Course" .int := by
  show _ ∧ _ ∧ _ ∧ _ ∧ _ ∧ _ ∧ _ ∧ _
  exact ⟨by decide +kernel, fun _ h => List.mem_cons_of_mem _ (List.mem_append_right _ h), List.mem_of_getElem? (i := 6) rfl, rfl, rfl, by decide +kernel, ⟨tyX1, tyX1_ok⟩, nmX1⟩
noncomputable def K_X1_comes (l : Launch) (V : Vx) (c0 : Nat) (a1 : Nat) (σ : Sg) (Qk : Int32 → Sg → Prop) : Prop := Ka l V yX1_comes wsX1_comes (rmz 0) 0 0 [.ref c0, .ref a1] σ (QI V Qk)
theorem e_X1_comes {l : Launch} {V : Vx} {c0 : Nat} {a1 : Nat} {σ : Sg} {Qk : Int32 → Sg → Prop} (h : ∀ M : Mx, mL M = l → mV M = V → mN M = 3 → Cx M cX1_comes (some .int) RX1 wsX1_comes (rmz 0) 0 0 (QI (mV M) Qk) → PS M 0 [(0, .ref c0), (1, .ref a1)] [] σ (0, 0)) : K_X1_comes l V c0 a1 σ Qk :=
  Ka_of (by decide +kernel) rfl rfl (Nat.le_of_ble_eq_true rfl) (fun M h1 h2 h3 C => h M h1 h2 h3 (by rw [h2]; exact C))
set_option maxRecDepth 100000 in
set_option maxHeartbeats 4000000 in
theorem s_X1_comes_0 {M : Mx} {Qk : Int32 → Sg → Prop} (C : Cx M cX1_comes (some .int) RX1 wsX1_comes (rmz 0) 0 0 (QI (mV M) Qk)) (hN : mN M = 3) {c0 : Nat} {a1 : Nat} (hc0 : isC c0) {ci1 : Nat} (sa1 : isMc ci1) (ha1 : kd a1 = (10 + ci1, 0)) (la1 : a1 ∈ ids (mV M)) {σ : Sg} (h : (∀ v1 : Int32, v1 = gi σ a1 1 → (vp_in v1 6 ∧ (∀ σ3 : Sg, σ3 = sr σ (c0 + 1) v1.toNatClampNeg (some a1) → (vp_in v1 6 ∧ (∀ σ5 : Sg, σ5 = si σ3 (c0 + 4) v1.toNatClampNeg (10 : Int32) → (vp_in (gi σ5 c0 1) 6 ∧ (∀ σ7 : Sg, σ7 = si σ5 (c0 + 2) (gi σ5 c0 1).toNatClampNeg v1 → (∀ σ8 : Sg, σ8 = si σ7 c0 1 ((gi σ7 c0 1) + (1 : Int32)) → (∀ σ9 : Sg, σ9 = si σ8 c0 3 (gi σ8 c0 1) → Qk v1 σ9)))))))))) : PS M 0 [(0, .ref c0), (1, .ref a1)] [] σ (0, 0) := by
  refine P_aload_n C dX1_comes_0 1 rfl ?_
  refine P_getM C fa_X1_comes_84 (by decide +kernel) sa1 ha1 la1 dX1_comes_1 ?_
  refine P_nmi (fun v1 ev1 => ?_)
  have h := h v1 ev1
  refine P_istore_n C dX1_comes_4 (by rw [hN]; decide) rfl ?_
  refine P_aload_n C dX1_comes_5 1 rfl ?_
  refine P_getS C (e := (c0 + 1)) fa_X1_comes_11 (kdC_0 hc0) (d := 1) rfl (fxl (fxC_0 hc0)) rfl dX1_comes_6 ?_
  refine P_iload_n C dX1_comes_9 0 rfl ?_
  refine P_aload_n C dX1_comes_10 2 rfl ?_
  obtain ⟨hv2, h⟩ := h
  refine P_astM C (kdC_1 hc0) (fxl (fxC_1 hc0)) hv2 sa1 ha1 la1 dX1_comes_11 ?_
  refine P_nm (fun σ3 eσ3 => ?_)
  have h := h σ3 eσ3
  refine P_aload_n C dX1_comes_12 1 rfl ?_
  refine P_getS C (e := (c0 + 4)) fa_X1_comes_31 (kdC_0 hc0) (d := 4) rfl (fxl (fxC_0 hc0)) rfl dX1_comes_13 ?_
  refine P_iload_n C dX1_comes_16 0 rfl ?_
  refine P_bipush C dX1_comes_17 (v := (10 : Int32)) rfl ?_
  obtain ⟨hv4, h⟩ := h
  refine P_iast C (kdC_4 hc0) (fxl (fxC_4 hc0)) hv4 dX1_comes_19 ?_
  refine P_nm (fun σ5 eσ5 => ?_)
  have h := h σ5 eσ5
  refine P_aload_n C dX1_comes_20 1 rfl ?_
  refine P_getS C (e := (c0 + 2)) fa_X1_comes_21 (kdC_0 hc0) (d := 2) rfl (fxl (fxC_0 hc0)) rfl dX1_comes_21 ?_
  refine P_aload_n C dX1_comes_24 1 rfl ?_
  refine P_getI C fa_X1_comes_17 (kdC_0 hc0) rfl (fxl (fxC_0 hc0)) dX1_comes_25 ?_
  refine P_iload_n C dX1_comes_28 0 rfl ?_
  obtain ⟨hv6, h⟩ := h
  refine P_iast C (kdC_2 hc0) (fxl (fxC_2 hc0)) hv6 dX1_comes_29 ?_
  refine P_nm (fun σ7 eσ7 => ?_)
  have h := h σ7 eσ7
  refine P_aload_n C dX1_comes_30 1 rfl ?_
  refine P_dup C dX1_comes_31 rfl ?_
  refine P_getI C fa_X1_comes_17 (kdC_0 hc0) rfl (fxl (fxC_0 hc0)) dX1_comes_32 ?_
  refine P_iconst C dX1_comes_35 (v := (1 : Int32)) rfl ?_
  refine P_iadd C dX1_comes_36 ?_
  refine P_putI C pa_X1_comes_17 (kdC_0 hc0) rfl (fxl (fxC_0 hc0)) dX1_comes_37 ?_
  refine P_nm (fun σ8 eσ8 => ?_)
  have h := h σ8 eσ8
  refine P_aload_n C dX1_comes_40 1 rfl ?_
  refine P_aload_n C dX1_comes_41 1 rfl ?_
  refine P_getI C fa_X1_comes_17 (kdC_0 hc0) rfl (fxl (fxC_0 hc0)) dX1_comes_42 ?_
  refine P_putI C pa_X1_comes_25 (kdC_0 hc0) rfl (fxl (fxC_0 hc0)) dX1_comes_45 ?_
  refine P_nm (fun σ9 eσ9 => ?_)
  have h := h σ9 eσ9
  refine P_iload_n C dX1_comes_48 0 rfl ?_
  exact P_iret C dX1_comes_49 h
theorem fa_X1_placeOf_25 : FA RX1 wsX1_placeOf 25 1 3 "NineMowers$Course" := by
  show _ ∧ _ ∧ _ ∧ _
  exact ⟨by decide +kernel, fun _ h => List.mem_cons_of_mem _ (List.mem_append_right _ h), List.mem_of_getElem? (i := 1) rfl, Or.inl rfl⟩
theorem fa_X1_placeOf_21 : FA RX1 wsX1_placeOf 21 1 2 "NineMowers$Course" := by
  show _ ∧ _ ∧ _ ∧ _
  exact ⟨by decide +kernel, fun _ h => List.mem_cons_of_mem _ (List.mem_append_right _ h), List.mem_of_getElem? (i := 2) rfl, Or.inl rfl⟩
noncomputable def K_X1_placeOf (l : Launch) (V : Vx) (c0 : Nat) (a1 : Int32) (σ : Sg) (Qk : Int32 → Sg → Prop) : Prop := Ka l V yX1_placeOf wsX1_placeOf (rmz 0) 0 0 [.ref c0, .int a1] σ (QI V Qk)
theorem e_X1_placeOf {l : Launch} {V : Vx} {c0 : Nat} {a1 : Int32} {σ : Sg} {Qk : Int32 → Sg → Prop} (h : ∀ M : Mx, mL M = l → mV M = V → mN M = 3 → Cx M cX1_placeOf (some .int) RX1 wsX1_placeOf (rmz 0) 0 0 (QI (mV M) Qk) → PS M 0 [(0, .ref c0), (1, .int a1)] [] σ (0, 0)) : K_X1_placeOf l V c0 a1 σ Qk :=
  Ka_of (by decide +kernel) rfl rfl (Nat.le_of_ble_eq_true rfl) (fun M h1 h2 h3 C => h M h1 h2 h3 (by rw [h2]; exact C))
set_option maxRecDepth 100000 in
set_option maxHeartbeats 4000000 in
theorem s_X1_placeOf_0 {M : Mx} {Qk : Int32 → Sg → Prop} (C : Cx M cX1_placeOf (some .int) RX1 wsX1_placeOf (rmz 0) 0 0 (QI (mV M) Qk)) (hN : mN M = 3) {c0 : Nat} {a1 : Int32} (hc0 : isC c0) {σ : Sg} (h : PS M 2 [(0, .ref c0), (1, .int a1), (2, .int (0 : Int32))] [] σ (0, 0)) : PS M 0 [(0, .ref c0), (1, .int a1)] [] σ (0, 0) := by
  refine P_iconst C dX1_placeOf_0 (v := (0 : Int32)) rfl ?_
  refine P_istore_n C dX1_placeOf_1 (by rw [hN]; decide) rfl ?_
  exact P_sub [1, 2, 0] rfl h
set_option maxRecDepth 100000 in
set_option maxHeartbeats 4000000 in
theorem s_X1_placeOf_2 {M : Mx} {Qk : Int32 → Sg → Prop} (C : Cx M cX1_placeOf (some .int) RX1 wsX1_placeOf (rmz 0) 0 0 (QI (mV M) Qk)) (hN : mN M = 3) {x0 : Nat} {x1 : Int32} {x2 : Int32} (hx0 : isC x0) {σ : Sg} (h : ((((gi σ x0 3) - (1 : Int32)) ≤ x2 → Qk x2 σ) ∧ (¬ ((gi σ x0 3) - (1 : Int32)) ≤ x2 → (vp_in x2 6 ∧ (((gi σ (x0 + 2) x2.toNatClampNeg) = x1 → Qk x2 σ) ∧ (¬ (gi σ (x0 + 2) x2.toNatClampNeg) = x1 → (∀ v4 : Int32, v4 = x2 + 1 → PS M 2 [(0, .ref x0), (1, .int x1), (2, .int v4)] [] σ (0, 0)))))))) : PS M 2 [(0, .ref x0), (1, .int x1), (2, .int x2)] [] σ (0, 0) := by
  refine P_iload_n C dX1_placeOf_2 2 rfl ?_
  refine P_aload_n C dX1_placeOf_3 0 rfl ?_
  refine P_getI C fa_X1_placeOf_25 (kdC_0 hx0) rfl (fxl (fxC_0 hx0)) dX1_placeOf_4 ?_
  refine P_iconst C dX1_placeOf_7 (v := (1 : Int32)) rfl ?_
  refine P_isub C dX1_placeOf_8 ?_
  refine P_icmp_ge C dX1_placeOf_9 (tgt := 28) (by decide +kernel) (fun q1 => ?_) (fun q1 => ?_)
  · have h := h.1 q1
    refine P_iload_n C dX1_placeOf_28 2 rfl ?_
    exact P_iret C dX1_placeOf_29 h
  · have h := h.2 q1
    refine P_aload_n C dX1_placeOf_12 0 rfl ?_
    refine P_getS C (e := (x0 + 2)) fa_X1_placeOf_21 (kdC_0 hx0) (d := 2) rfl (fxl (fxC_0 hx0)) rfl dX1_placeOf_13 ?_
    refine P_iload_n C dX1_placeOf_16 2 rfl ?_
    obtain ⟨hv2, h⟩ := h
    refine P_iald C (kdC_2 hx0) (fxl (fxC_2 hx0)) hv2 dX1_placeOf_17 ?_
    refine P_iload_n C dX1_placeOf_18 1 rfl ?_
    refine P_icmp_eq C dX1_placeOf_19 (tgt := 28) (by decide +kernel) (fun q3 => ?_) (fun q3 => ?_)
    · have h := h.1 q3
      refine P_iload_n C dX1_placeOf_28 2 rfl ?_
      exact P_iret C dX1_placeOf_29 h
    · have h := h.2 q3
      obtain ⟨v4, ev4⟩ : ∃ v : Int32, v = x2 + 1 := ⟨_, rfl⟩
      have h := h v4 ev4
      refine P_iinc (v := v4) C dX1_placeOf_22 2 rfl (by rw [ev4]; rfl) (by rw [hN]; decide) rfl ?_
      refine P_goto C dX1_placeOf_25 (tgt := 2) (by decide +kernel) ?_
      exact P_sub [1, 2, 0] rfl h
theorem kv_X1_moves_X1_placeOf : KV RX1 wsX1_moves (rmz 1) 87 RX1 yX1_placeOf wsX1_placeOf (rmz 0) 1 := ⟨_, _, _, _, gX1_moves_X1_placeOf, rfl, by decide +kernel, by decide +kernel⟩
theorem fa_X1_moves_21 : FA RX1 wsX1_moves 21 1 2 "NineMowers$Course" := by
  show _ ∧ _ ∧ _ ∧ _
  exact ⟨by decide +kernel, fun _ h => List.mem_cons_of_mem _ (List.mem_append_right _ h), List.mem_of_getElem? (i := 1) rfl, Or.inl rfl⟩
noncomputable def K_X1_moves (l : Launch) (V : Vx) (c0 : Nat) (a1 : Int32) (a2 : Int32) (σ : Sg) (Qk : Int32 → Sg → Prop) : Prop := Ka l V yX1_moves wsX1_moves (rmz 1) 0 0 [.ref c0, .int a1, .int a2] σ (QI V Qk)
theorem e_X1_moves {l : Launch} {V : Vx} {c0 : Nat} {a1 : Int32} {a2 : Int32} {σ : Sg} {Qk : Int32 → Sg → Prop} (h : ∀ M : Mx, mL M = l → mV M = V → mN M = 5 → Cx M cX1_moves (some .int) RX1 wsX1_moves (rmz 1) 0 0 (QI (mV M) Qk) → PS M 0 [(0, .ref c0), (1, .int a1), (2, .int a2)] [] σ (0, 0)) : K_X1_moves l V c0 a1 a2 σ Qk :=
  Ka_of (by decide +kernel) rfl rfl (Nat.le_of_ble_eq_true rfl) (fun M h1 h2 h3 C => h M h1 h2 h3 (by rw [h2]; exact C))
set_option maxRecDepth 100000 in
set_option maxHeartbeats 4000000 in
theorem s_X1_moves_0 {M : Mx} {Qk : Int32 → Sg → Prop} (C : Cx M cX1_moves (some .int) RX1 wsX1_moves (rmz 1) 0 0 (QI (mV M) Qk)) (hN : mN M = 5) {c0 : Nat} {a1 : Int32} {a2 : Int32} (hc0 : isC c0) {σ : Sg} (h : K_X1_placeOf (mL M) (mV M) c0 a1 σ (fun r2 σ1 => PS M 9 [(0, .ref c0), (1, .int a1), (2, .int a2), (3, .int r2), (4, .int r2)] [] σ1 (0, 0))) : PS M 0 [(0, .ref c0), (1, .int a1), (2, .int a2)] [] σ (0, 0) := by
  refine P_aload_n C dX1_moves_0 0 rfl ?_
  refine P_iload_n C dX1_moves_1 1 rfl ?_
  refine P_ci (R_v (ci := 1) C kv_X1_moves_X1_placeOf (As := [.int a1]) rfl (kdC_0 hc0) rfl (fxl (fxC_0 hc0)) (Nat.le_of_ble_eq_true rfl) dX1_moves_2 ⟨Nat.le_refl _, Nat.le_refl _⟩ h) (fun r2 σ1 h => ?_)
  refine P_istore_n C dX1_moves_5 (by rw [hN]; decide) rfl ?_
  refine P_iload_n C dX1_moves_6 0 rfl ?_
  refine P_istore C dX1_moves_7 (by rw [hN]; decide) rfl ?_
  exact P_sub [2, 3, 4, 1, 0] rfl h
set_option maxRecDepth 100000 in
set_option maxHeartbeats 4000000 in
theorem s_X1_moves_9 {M : Mx} {Qk : Int32 → Sg → Prop} (C : Cx M cX1_moves (some .int) RX1 wsX1_moves (rmz 1) 0 0 (QI (mV M) Qk)) (hN : mN M = 5) {x0 : Nat} {x1 : Int32} {x2 : Int32} {x3 : Int32} {x4 : Int32} (hx0 : isC x0) {σ : Sg} (h : ((x4 ≤ x2 → PS M 40 [(0, .ref x0), (1, .int x1), (2, .int x2), (3, .int x3), (4, .int x3)] [] σ (0, 0)) ∧ (¬ x4 ≤ x2 → (vp_in (x4 - (1 : Int32)) 6 ∧ (vp_in x4 6 ∧ (∀ σ4 : Sg, σ4 = si σ (x0 + 2) x4.toNatClampNeg (gi σ (x0 + 2) (x4 - (1 : Int32)).toNatClampNeg) → (∀ v5 : Int32, v5 = x4 - 1 → PS M 9 [(0, .ref x0), (1, .int x1), (2, .int x2), (3, .int x3), (4, .int v5)] [] σ4 (0, 0)))))))) : PS M 9 [(0, .ref x0), (1, .int x1), (2, .int x2), (3, .int x3), (4, .int x4)] [] σ (0, 0) := by
  refine P_iload C dX1_moves_9 4 rfl ?_
  refine P_iload_n C dX1_moves_11 2 rfl ?_
  refine P_icmp_le C dX1_moves_12 (tgt := 37) (by decide +kernel) (fun q1 => ?_) (fun q1 => ?_)
  · have h := h.1 q1
    refine P_iload_n C dX1_moves_37 3 rfl ?_
    refine P_istore C dX1_moves_38 (by rw [hN]; decide) rfl ?_
    exact P_sub [1, 2, 3, 4, 0] rfl h
  · have h := h.2 q1
    refine P_aload_n C dX1_moves_15 0 rfl ?_
    refine P_getS C (e := (x0 + 2)) fa_X1_moves_21 (kdC_0 hx0) (d := 2) rfl (fxl (fxC_0 hx0)) rfl dX1_moves_16 ?_
    refine P_iload C dX1_moves_19 4 rfl ?_
    refine P_aload_n C dX1_moves_21 0 rfl ?_
    refine P_getS C (e := (x0 + 2)) fa_X1_moves_21 (kdC_0 hx0) (d := 2) rfl (fxl (fxC_0 hx0)) rfl dX1_moves_22 ?_
    refine P_iload C dX1_moves_25 4 rfl ?_
    refine P_iconst C dX1_moves_27 (v := (1 : Int32)) rfl ?_
    refine P_isub C dX1_moves_28 ?_
    obtain ⟨hv2, h⟩ := h
    refine P_iald C (kdC_2 hx0) (fxl (fxC_2 hx0)) hv2 dX1_moves_29 ?_
    obtain ⟨hv3, h⟩ := h
    refine P_iast C (kdC_2 hx0) (fxl (fxC_2 hx0)) hv3 dX1_moves_30 ?_
    refine P_nm (fun σ4 eσ4 => ?_)
    have h := h σ4 eσ4
    obtain ⟨v5, ev5⟩ : ∃ v : Int32, v = x4 - 1 := ⟨_, rfl⟩
    have h := h v5 ev5
    refine P_iinc (v := v5) C dX1_moves_31 4 rfl (by rw [ev5]; exact sub_one _) (by rw [hN]; decide) rfl ?_
    refine P_goto C dX1_moves_34 (tgt := 9) (by decide +kernel) ?_
    exact P_sub [1, 2, 3, 4, 0] rfl h
set_option maxRecDepth 100000 in
set_option maxHeartbeats 4000000 in
theorem s_X1_moves_40 {M : Mx} {Qk : Int32 → Sg → Prop} (C : Cx M cX1_moves (some .int) RX1 wsX1_moves (rmz 1) 0 0 (QI (mV M) Qk)) (hN : mN M = 5) {x0 : Nat} {x1 : Int32} {x2 : Int32} {x3 : Int32} {x4 : Int32} (hx0 : isC x0) {σ : Sg} (h : ((x2 ≤ x4 → (vp_in x2 6 ∧ (∀ σ3 : Sg, σ3 = si σ (x0 + 2) x2.toNatClampNeg x1 → Qk x3 σ3))) ∧ (¬ x2 ≤ x4 → (vp_in (x4 + (1 : Int32)) 6 ∧ (vp_in x4 6 ∧ (∀ σ6 : Sg, σ6 = si σ (x0 + 2) x4.toNatClampNeg (gi σ (x0 + 2) (x4 + (1 : Int32)).toNatClampNeg) → (∀ v7 : Int32, v7 = x4 + 1 → PS M 40 [(0, .ref x0), (1, .int x1), (2, .int x2), (3, .int x3), (4, .int v7)] [] σ6 (0, 0)))))))) : PS M 40 [(0, .ref x0), (1, .int x1), (2, .int x2), (3, .int x3), (4, .int x4)] [] σ (0, 0) := by
  refine P_iload C dX1_moves_40 4 rfl ?_
  refine P_iload_n C dX1_moves_42 2 rfl ?_
  refine P_icmp_ge C dX1_moves_43 (tgt := 68) (by decide +kernel) (fun q1 => ?_) (fun q1 => ?_)
  · have h := h.1 q1
    refine P_aload_n C dX1_moves_68 0 rfl ?_
    refine P_getS C (e := (x0 + 2)) fa_X1_moves_21 (kdC_0 hx0) (d := 2) rfl (fxl (fxC_0 hx0)) rfl dX1_moves_69 ?_
    refine P_iload_n C dX1_moves_72 2 rfl ?_
    refine P_iload_n C dX1_moves_73 1 rfl ?_
    obtain ⟨hv2, h⟩ := h
    refine P_iast C (kdC_2 hx0) (fxl (fxC_2 hx0)) hv2 dX1_moves_74 ?_
    refine P_nm (fun σ3 eσ3 => ?_)
    have h := h σ3 eσ3
    refine P_iload_n C dX1_moves_75 3 rfl ?_
    exact P_iret C dX1_moves_76 h
  · have h := h.2 q1
    refine P_aload_n C dX1_moves_46 0 rfl ?_
    refine P_getS C (e := (x0 + 2)) fa_X1_moves_21 (kdC_0 hx0) (d := 2) rfl (fxl (fxC_0 hx0)) rfl dX1_moves_47 ?_
    refine P_iload C dX1_moves_50 4 rfl ?_
    refine P_aload_n C dX1_moves_52 0 rfl ?_
    refine P_getS C (e := (x0 + 2)) fa_X1_moves_21 (kdC_0 hx0) (d := 2) rfl (fxl (fxC_0 hx0)) rfl dX1_moves_53 ?_
    refine P_iload C dX1_moves_56 4 rfl ?_
    refine P_iconst C dX1_moves_58 (v := (1 : Int32)) rfl ?_
    refine P_iadd C dX1_moves_59 ?_
    obtain ⟨hv4, h⟩ := h
    refine P_iald C (kdC_2 hx0) (fxl (fxC_2 hx0)) hv4 dX1_moves_60 ?_
    obtain ⟨hv5, h⟩ := h
    refine P_iast C (kdC_2 hx0) (fxl (fxC_2 hx0)) hv5 dX1_moves_61 ?_
    refine P_nm (fun σ6 eσ6 => ?_)
    have h := h σ6 eσ6
    obtain ⟨v7, ev7⟩ : ∃ v : Int32, v = x4 + 1 := ⟨_, rfl⟩
    have h := h v7 ev7
    refine P_iinc (v := v7) C dX1_moves_62 4 rfl (by rw [ev7]; rfl) (by rw [hN]; decide) rfl ?_
    refine P_goto C dX1_moves_65 (tgt := 40) (by decide +kernel) ?_
    exact P_sub [1, 2, 3, 4, 0] rfl h
theorem fa_X1_numbersOf_37 : FA RX1 wsX1_numbersOf 37 1 7 "NineMowers$Course" := by
  show _ ∧ _ ∧ _ ∧ _
  exact ⟨by decide +kernel, fun _ h => List.mem_cons_of_mem _ (List.mem_append_right _ h), List.mem_of_getElem? (i := 4) rfl, Or.inl rfl⟩
theorem fa_X1_numbersOf_28 : FA RX1 wsX1_numbersOf 28 1 4 "NineMowers$Course" := by
  show _ ∧ _ ∧ _ ∧ _
  exact ⟨by decide +kernel, fun _ h => List.mem_cons_of_mem _ (List.mem_append_right _ h), List.mem_of_getElem? (i := 1) rfl, Or.inl rfl⟩
theorem fa_X1_numbersOf_31 : FA RX1 wsX1_numbersOf 31 1 5 "NineMowers$Course" := by
  show _ ∧ _ ∧ _ ∧ _
  exact ⟨by decide +kernel, fun _ h => List.mem_cons_of_mem _ (List.mem_append_right _ h), List.mem_of_getElem? (i := 2) rfl, Or.inl rfl⟩
theorem fa_X1_numbersOf_34 : FA RX1 wsX1_numbersOf 34 1 6 "NineMowers$Course" := by
  show _ ∧ _ ∧ _ ∧ _
  exact ⟨by decide +kernel, fun _ h => List.mem_cons_of_mem _ (List.mem_append_right _ h), List.mem_of_getElem? (i := 3) rfl, Or.inl rfl⟩
noncomputable def K_X1_numbersOf (l : Launch) (V : Vx) (c0 : Nat) (a1 : Int32) (σ : Sg) (Qk : Nat → Sg → Prop) : Prop := Ka l V yX1_numbersOf wsX1_numbersOf (rmz 0) 0 0 [.ref c0, .int a1] σ (QR V Qk)
theorem e_X1_numbersOf {l : Launch} {V : Vx} {c0 : Nat} {a1 : Int32} {σ : Sg} {Qk : Nat → Sg → Prop} (h : ∀ M : Mx, mL M = l → mV M = V → mN M = 2 → Cx M cX1_numbersOf (some (.array .int)) RX1 wsX1_numbersOf (rmz 0) 0 0 (QR (mV M) Qk) → PS M 0 [(0, .ref c0), (1, .int a1)] [] σ (0, 0)) : K_X1_numbersOf l V c0 a1 σ Qk :=
  Ka_of (by decide +kernel) rfl rfl (Nat.le_of_ble_eq_true rfl) (fun M h1 h2 h3 C => h M h1 h2 h3 (by rw [h2]; exact C))
set_option maxRecDepth 100000 in
set_option maxHeartbeats 4000000 in
theorem s_X1_numbersOf_0 {M : Mx} {Qk : Nat → Sg → Prop} (C : Cx M cX1_numbersOf (some (.array .int)) RX1 wsX1_numbersOf (rmz 0) 0 0 (QR (mV M) Qk)) (hN : mN M = 2) {c0 : Nat} {a1 : Int32} (hc0 : isC c0) {σ : Sg} (h : ((a1.toInt < 0 ∨ 2 < a1.toInt → Qk (c0 + 6) σ) ∧ (a1.toInt = 0 → Qk (c0 + 3) σ) ∧ (a1.toInt = 1 → Qk (c0 + 4) σ) ∧ (a1.toInt = 2 → Qk (c0 + 5) σ))) : PS M 0 [(0, .ref c0), (1, .int a1)] [] σ (0, 0) := by
  refine P_iload_n C dX1_numbersOf_0 1 rfl ?_
  refine P_tsw C dX1_numbersOf_1 43 (by decide +kernel) (fun q1 => ?_) (by decide +kernel) (fun i off ho q1 => ?_)
  · have h := h.1 q1
    refine P_aload_n C dX1_numbersOf_43 0 rfl ?_
    refine P_getS C (e := (c0 + 6)) fa_X1_numbersOf_37 (kdC_0 hc0) (d := 6) rfl (fxl (fxC_0 hc0)) rfl dX1_numbersOf_44 ?_
    exact P_aret C (Or.inr ⟨_, rfl⟩) dX1_numbersOf_47 h
  · rcases i with _ | _ | _ | i
    · obtain rfl : (27 : Int) = off := Option.some.inj ho
      refine ⟨?_, by decide +kernel⟩
      show PS M 28 _ _ _ _
      have h := h.2.1 (by have q := q1; simp at q; omega)
      refine P_aload_n C dX1_numbersOf_28 0 rfl ?_
      refine P_getS C (e := (c0 + 3)) fa_X1_numbersOf_28 (kdC_0 hc0) (d := 3) rfl (fxl (fxC_0 hc0)) rfl dX1_numbersOf_29 ?_
      exact P_aret C (Or.inr ⟨_, rfl⟩) dX1_numbersOf_32 h
    · obtain rfl : (32 : Int) = off := Option.some.inj ho
      refine ⟨?_, by decide +kernel⟩
      show PS M 33 _ _ _ _
      have h := h.2.2.1 (by have q := q1; simp at q; omega)
      refine P_aload_n C dX1_numbersOf_33 0 rfl ?_
      refine P_getS C (e := (c0 + 4)) fa_X1_numbersOf_31 (kdC_0 hc0) (d := 4) rfl (fxl (fxC_0 hc0)) rfl dX1_numbersOf_34 ?_
      exact P_aret C (Or.inr ⟨_, rfl⟩) dX1_numbersOf_37 h
    · obtain rfl : (37 : Int) = off := Option.some.inj ho
      refine ⟨?_, by decide +kernel⟩
      show PS M 38 _ _ _ _
      have h := h.2.2.2 (by have q := q1; simp at q; omega)
      refine P_aload_n C dX1_numbersOf_38 0 rfl ?_
      refine P_getS C (e := (c0 + 5)) fa_X1_numbersOf_34 (kdC_0 hc0) (d := 5) rfl (fxl (fxC_0 hc0)) rfl dX1_numbersOf_39 ?_
      exact P_aret C (Or.inr ⟨_, rfl⟩) dX1_numbersOf_42 h
    · exact absurd (Array.getElem?_eq_some_iff.mp ho).1 (Nat.not_lt.mpr (by show 3 ≤ _; omega))
theorem fa_X1_gap_50 : FA RX1 wsX1_gap 50 1 11 "NineMowers$Course" := by
  show _ ∧ _ ∧ _ ∧ _
  exact ⟨by decide +kernel, fun _ h => List.mem_cons_of_mem _ (List.mem_append_left _ (List.mem_append_right _ h)), List.mem_of_getElem? (i := 1) rfl, Or.inl rfl⟩
theorem fa_X1_gap_46 : FA RX1 wsX1_gap 46 1 10 "NineMowers$Course" := by
  show _ ∧ _ ∧ _ ∧ _
  exact ⟨by decide +kernel, fun _ h => List.mem_cons_of_mem _ (List.mem_append_left _ (List.mem_append_right _ h)), List.mem_of_getElem? (i := 2) rfl, Or.inl rfl⟩
theorem fa_X1_gap_91 : FA RX1 wsX1_gap 91 2 0 "NineMowers$Field" := by
  show _ ∧ _ ∧ _ ∧ _
  exact ⟨by decide +kernel, fun _ h => List.mem_cons_of_mem _ (List.mem_append_right _ h), List.mem_of_getElem? (i := 3) rfl, Or.inl rfl⟩
noncomputable def K_X1_gap (l : Launch) (V : Vx) (c0 : Nat) (σ : Sg) (Qk : Int32 → Sg → Prop) : Prop := Ka l V yX1_gap wsX1_gap (rmz 0) 0 0 [.ref c0] σ (QI V Qk)
theorem e_X1_gap {l : Launch} {V : Vx} {c0 : Nat} {σ : Sg} {Qk : Int32 → Sg → Prop} (h : ∀ M : Mx, mL M = l → mV M = V → mN M = 1 → Cx M cX1_gap (some .int) RX1 wsX1_gap (rmz 0) 0 0 (QI (mV M) Qk) → PS M 0 [(0, .ref c0)] [] σ (0, 0)) : K_X1_gap l V c0 σ Qk :=
  Ka_of (by decide +kernel) rfl rfl (Nat.le_of_ble_eq_true rfl) (fun M h1 h2 h3 C => h M h1 h2 h3 (by rw [h2]; exact C))
set_option maxRecDepth 100000 in
set_option maxHeartbeats 4000000 in
theorem s_X1_gap_0 {M : Mx} {Qk : Int32 → Sg → Prop} (C : Cx M cX1_gap (some .int) RX1 wsX1_gap (rmz 0) 0 0 (QI (mV M) Qk)) (hN : mN M = 1) {c0 : Nat} (hc0 : isC c0) {σ : Sg} (h : (((gi σ c0 11) < 0 → (∃ f2 : Nat, gr σ c0 10 = some f2 ∧ kd f2 = (12, 0) ∧ f2 ∈ ids (mV M) ∧ Qk (gi σ f2 0) σ)) ∧ (¬ (gi σ c0 11) < 0 → Qk (gi σ c0 11) σ))) : PS M 0 [(0, .ref c0)] [] σ (0, 0) := by
  refine P_aload_n C dX1_gap_0 0 rfl ?_
  refine P_getI C fa_X1_gap_50 (kdC_0 hc0) rfl (fxl (fxC_0 hc0)) dX1_gap_1 ?_
  refine P_if_lt C dX1_gap_4 (tgt := 14) (by decide +kernel) (fun q1 => ?_) (fun q1 => ?_)
  · have h := h.1 q1
    refine P_aload_n C dX1_gap_14 0 rfl ?_
    obtain ⟨f2, hrf2, hf2, lf2, h⟩ := h
    refine P_getD C fa_X1_gap_46 (kdC_0 hc0) rfl (fxl (fxC_0 hc0)) hrf2 dX1_gap_15 ?_
    refine P_getI C fa_X1_gap_91 hf2 rfl lf2 dX1_gap_18 ?_
    exact P_iret C dX1_gap_21 h
  · have h := h.2 q1
    refine P_aload_n C dX1_gap_7 0 rfl ?_
    refine P_getI C fa_X1_gap_50 (kdC_0 hc0) rfl (fxl (fxC_0 hc0)) dX1_gap_8 ?_
    refine P_goto C dX1_gap_11 (tgt := 21) (by decide +kernel) ?_
    exact P_iret C dX1_gap_21 h
theorem fa_X1_roomAt_21 : FA RX1 wsX1_roomAt 21 1 2 "NineMowers$Course" := by
  show _ ∧ _ ∧ _ ∧ _
  exact ⟨by decide +kernel, fun _ h => List.mem_cons_of_mem _ (List.mem_append_left _ (List.mem_append_right _ h)), List.mem_of_getElem? (i := 1) rfl, Or.inl rfl⟩
theorem fa_X1_roomAt_28 : FA RX1 wsX1_roomAt 28 1 4 "NineMowers$Course" := by
  show _ ∧ _ ∧ _ ∧ _
  exact ⟨by decide +kernel, fun _ h => List.mem_cons_of_mem _ (List.mem_append_left _ (List.mem_append_right _ h)), List.mem_of_getElem? (i := 2) rfl, Or.inl rfl⟩
theorem fa_X1_roomAt_68 : FA RX1 wsX1_roomAt 68 1 15 "NineMowers$Course" := by
  show _ ∧ _ ∧ _ ∧ _
  exact ⟨by decide +kernel, fun _ h => List.mem_cons_of_mem _ (List.mem_append_left _ (List.mem_append_right _ h)), List.mem_of_getElem? (i := 3) rfl, Or.inl rfl⟩
theorem km_X1_roomAt_min : KM RX1 wsX1_roomAt 125 Lib.Math.min.name Lib.Math.min.code := ⟨List.mem_of_getElem? (i := 4) rfl, List.mem_of_getElem? (i := 5) rfl, List.mem_of_getElem? (i := 6) rfl, List.mem_of_getElem? (i := 7) rfl⟩
theorem kv_X1_roomAt_X1_gap : KV RX1 wsX1_roomAt (rmz 1) 109 RX1 yX1_gap wsX1_gap (rmz 0) 0 := ⟨_, _, _, _, gX1_roomAt_X1_gap, rfl, by decide +kernel, by decide +kernel⟩
theorem km_X1_roomAt_max : KM RX1 wsX1_roomAt 131 Lib.Math.max.name Lib.Math.max.code := ⟨List.mem_of_getElem? (i := 8) rfl, List.mem_of_getElem? (i := 9) rfl, List.mem_of_getElem? (i := 6) rfl, List.mem_of_getElem? (i := 10) rfl⟩
noncomputable def K_X1_roomAt (l : Launch) (V : Vx) (c0 : Nat) (a1 : Int32) (σ : Sg) (Qk : Int32 → Sg → Prop) : Prop := Ka l V yX1_roomAt wsX1_roomAt (rmz 1) 0 0 [.ref c0, .int a1] σ (QI V Qk)
theorem e_X1_roomAt {l : Launch} {V : Vx} {c0 : Nat} {a1 : Int32} {σ : Sg} {Qk : Int32 → Sg → Prop} (h : ∀ M : Mx, mL M = l → mV M = V → mN M = 4 → Cx M cX1_roomAt (some .int) RX1 wsX1_roomAt (rmz 1) 0 0 (QI (mV M) Qk) → PS M 0 [(0, .ref c0), (1, .int a1)] [] σ (0, 0)) : K_X1_roomAt l V c0 a1 σ Qk :=
  Ka_of (by decide +kernel) rfl rfl (Nat.le_of_ble_eq_true rfl) (fun M h1 h2 h3 C => h M h1 h2 h3 (by rw [h2]; exact C))
set_option maxRecDepth 100000 in
set_option maxHeartbeats 4000000 in
theorem s_X1_roomAt_0 {M : Mx} {Qk : Int32 → Sg → Prop} (C : Cx M cX1_roomAt (some .int) RX1 wsX1_roomAt (rmz 1) 0 0 (QI (mV M) Qk)) (hN : mN M = 4) {c0 : Nat} {a1 : Int32} (hc0 : isC c0) {σ : Sg} (h : (vp_in a1 6 ∧ (∀ v2 : Int32, v2 = gi σ (c0 + 2) a1.toNatClampNeg → (vp_in v2 6 ∧ (vp_in a1 6 ∧ (∀ v5 : Int32, v5 = jmin ((gi σ (c0 + 3) v2.toNatClampNeg) + (gi σ (c0 + 14) a1.toNatClampNeg)) (9999 : Int32) → ((a1 ≤ 0 → PS M 54 [(0, .ref c0), (2, .int v2), (3, .int v5)] [] σ (0, 0)) ∧ (¬ a1 ≤ 0 → (vp_in (a1 - (1 : Int32)) 6 ∧ (vp_in (gi σ (c0 + 2) (a1 - (1 : Int32)).toNatClampNeg) 6 ∧ K_X1_gap (mL M) (mV M) c0 σ (fun r10 σ9 => (∀ v11 : Int32, v11 = jmin v5 ((gi σ (c0 + 3) (gi σ (c0 + 2) (a1 - (1 : Int32)).toNatClampNeg).toNatClampNeg) - r10) → PS M 54 [(0, .ref c0), (2, .int v2), (3, .int v11)] [] σ9 (0, 0))))))))))))) : PS M 0 [(0, .ref c0), (1, .int a1)] [] σ (0, 0) := by
  refine P_aload_n C dX1_roomAt_0 0 rfl ?_
  refine P_getS C (e := (c0 + 2)) fa_X1_roomAt_21 (kdC_0 hc0) (d := 2) rfl (fxl (fxC_0 hc0)) rfl dX1_roomAt_1 ?_
  refine P_iload_n C dX1_roomAt_4 1 rfl ?_
  obtain ⟨hv1, h⟩ := h
  refine P_iald C (kdC_2 hc0) (fxl (fxC_2 hc0)) hv1 dX1_roomAt_5 ?_
  refine P_nmi (fun v2 ev2 => ?_)
  have h := h v2 ev2
  refine P_istore_n C dX1_roomAt_6 (by rw [hN]; decide) rfl ?_
  refine P_aload_n C dX1_roomAt_7 1 rfl ?_
  refine P_getS C (e := (c0 + 3)) fa_X1_roomAt_28 (kdC_0 hc0) (d := 3) rfl (fxl (fxC_0 hc0)) rfl dX1_roomAt_8 ?_
  refine P_iload_n C dX1_roomAt_11 0 rfl ?_
  obtain ⟨hv3, h⟩ := h
  refine P_iald C (kdC_3 hc0) (fxl (fxC_3 hc0)) hv3 dX1_roomAt_12 ?_
  refine P_aload_n C dX1_roomAt_13 1 rfl ?_
  refine P_getS C (e := (c0 + 14)) fa_X1_roomAt_68 (kdC_0 hc0) (d := 14) rfl (fxl (fxC_0 hc0)) rfl dX1_roomAt_14 ?_
  refine P_iload_n C dX1_roomAt_17 2 rfl ?_
  obtain ⟨hv4, h⟩ := h
  refine P_iald C (kdC_14 hc0) (fxl (fxC_14 hc0)) hv4 dX1_roomAt_18 ?_
  refine P_iadd C dX1_roomAt_19 ?_
  refine P_sipush C dX1_roomAt_20 (v := (9999 : Int32)) rfl ?_
  refine P_min C km_X1_roomAt_min (by decide +kernel) (Nat.le_of_ble_eq_true rfl) ⟨Nat.le_refl _, Nat.le_refl _⟩ dX1_roomAt_23 ?_
  refine P_nmi (fun v5 ev5 => ?_)
  have h := h v5 ev5
  refine P_istore_n C dX1_roomAt_26 (by rw [hN]; decide) rfl ?_
  refine P_iload_n C dX1_roomAt_27 3 rfl ?_
  refine P_if_le C dX1_roomAt_28 (tgt := 54) (by decide +kernel) (fun q6 => ?_) (fun q6 => ?_)
  · have h := h.1 q6
    exact P_sub [2, 1, 0] rfl h
  · have h := h.2 q6
    refine P_iload_n C dX1_roomAt_31 0 rfl ?_
    refine P_aload_n C dX1_roomAt_32 2 rfl ?_
    refine P_getS C (e := (c0 + 3)) fa_X1_roomAt_28 (kdC_0 hc0) (d := 3) rfl (fxl (fxC_0 hc0)) rfl dX1_roomAt_33 ?_
    refine P_aload_n C dX1_roomAt_36 2 rfl ?_
    refine P_getS C (e := (c0 + 2)) fa_X1_roomAt_21 (kdC_0 hc0) (d := 2) rfl (fxl (fxC_0 hc0)) rfl dX1_roomAt_37 ?_
    refine P_iload_n C dX1_roomAt_40 3 rfl ?_
    refine P_iconst C dX1_roomAt_41 (v := (1 : Int32)) rfl ?_
    refine P_isub C dX1_roomAt_42 ?_
    obtain ⟨hv7, h⟩ := h
    refine P_iald C (kdC_2 hc0) (fxl (fxC_2 hc0)) hv7 dX1_roomAt_43 ?_
    obtain ⟨hv8, h⟩ := h
    refine P_iald C (kdC_3 hc0) (fxl (fxC_3 hc0)) hv8 dX1_roomAt_44 ?_
    refine P_aload_n C dX1_roomAt_45 2 rfl ?_
    refine P_ci (R_v (ci := 1) C kv_X1_roomAt_X1_gap (As := []) rfl (kdC_0 hc0) rfl (fxl (fxC_0 hc0)) (Nat.le_of_ble_eq_true rfl) dX1_roomAt_46 ⟨Nat.le_refl _, Nat.le_refl _⟩ h) (fun r10 σ9 h => ?_)
    refine P_isub C dX1_roomAt_49 ?_
    refine P_min C km_X1_roomAt_min (by decide +kernel) (Nat.le_of_ble_eq_true rfl) ⟨Nat.le_refl _, Nat.le_refl _⟩ dX1_roomAt_50 ?_
    refine P_nmi (fun v11 ev11 => ?_)
    have h := h v11 ev11
    refine P_istore_n C dX1_roomAt_53 (by rw [hN]; decide) rfl ?_
    exact P_sub [2, 1, 0] rfl h
set_option maxRecDepth 100000 in
set_option maxHeartbeats 4000000 in
theorem s_X1_roomAt_54 {M : Mx} {Qk : Int32 → Sg → Prop} (C : Cx M cX1_roomAt (some .int) RX1 wsX1_roomAt (rmz 1) 0 0 (QI (mV M) Qk)) (hN : mN M = 4) {x0 : Nat} {x2 : Int32} {x3 : Int32} (hx0 : isC x0) {σ : Sg} (h : (vp_in x2 6 ∧ (∀ v2 : Int32, v2 = jmax (0 : Int32) (x3 - (gi σ (x0 + 3) x2.toNatClampNeg)) → Qk v2 σ))) : PS M 54 [(0, .ref x0), (2, .int x2), (3, .int x3)] [] σ (0, 0) := by
  refine P_iconst C dX1_roomAt_54 (v := (0 : Int32)) rfl ?_
  refine P_iload_n C dX1_roomAt_55 2 rfl ?_
  refine P_aload_n C dX1_roomAt_56 0 rfl ?_
  refine P_getS C (e := (x0 + 3)) fa_X1_roomAt_28 (kdC_0 hx0) (d := 3) rfl (fxl (fxC_0 hx0)) rfl dX1_roomAt_57 ?_
  refine P_iload_n C dX1_roomAt_60 1 rfl ?_
  obtain ⟨hv1, h⟩ := h
  refine P_iald C (kdC_3 hx0) (fxl (fxC_3 hx0)) hv1 dX1_roomAt_61 ?_
  refine P_isub C dX1_roomAt_62 ?_
  refine P_max C km_X1_roomAt_max (by decide +kernel) (Nat.le_of_ble_eq_true rfl) ⟨Nat.le_refl _, Nat.le_refl _⟩ dX1_roomAt_63 ?_
  refine P_nmi (fun v2 ev2 => ?_)
  have h := h v2 ev2
  exact P_iret C dX1_roomAt_66 h
theorem fa_X1_wears_34 : FA RX1 wsX1_wears 34 1 6 "NineMowers$Course" := by
  show _ ∧ _ ∧ _ ∧ _
  exact ⟨by decide +kernel, fun _ h => List.mem_cons_of_mem _ (List.mem_append_left _ (List.mem_append_right _ h)), List.mem_of_getElem? (i := 6) rfl, Or.inl rfl⟩
theorem km_X1_wears_max : KM RX1 wsX1_wears 131 Lib.Math.max.name Lib.Math.max.code := ⟨List.mem_of_getElem? (i := 2) rfl, List.mem_of_getElem? (i := 3) rfl, List.mem_of_getElem? (i := 4) rfl, List.mem_of_getElem? (i := 5) rfl⟩
theorem fa_X1_wears_31 : FA RX1 wsX1_wears 31 1 5 "NineMowers$Course" := by
  show _ ∧ _ ∧ _ ∧ _
  exact ⟨by decide +kernel, fun _ h => List.mem_cons_of_mem _ (List.mem_append_left _ (List.mem_append_right _ h)), List.mem_of_getElem? (i := 1) rfl, Or.inl rfl⟩
theorem fa_X1_wears_46 : FA RX1 wsX1_wears 46 1 10 "NineMowers$Course" := by
  show _ ∧ _ ∧ _ ∧ _
  exact ⟨by decide +kernel, fun _ h => List.mem_cons_of_mem _ (List.mem_append_left _ (List.mem_append_right _ h)), List.mem_of_getElem? (i := 7) rfl, Or.inl rfl⟩
theorem fa_X1_wears_134 : FA RX1 wsX1_wears 134 2 1 "NineMowers$Field" := by
  show _ ∧ _ ∧ _ ∧ _
  exact ⟨by decide +kernel, fun _ h => List.mem_cons_of_mem _ (List.mem_append_right _ h), List.mem_of_getElem? (i := 8) rfl, Or.inl rfl⟩
theorem km_X1_wears_min : KM RX1 wsX1_wears 125 Lib.Math.min.name Lib.Math.min.code := ⟨List.mem_of_getElem? (i := 9) rfl, List.mem_of_getElem? (i := 10) rfl, List.mem_of_getElem? (i := 4) rfl, List.mem_of_getElem? (i := 11) rfl⟩
noncomputable def K_X1_wears (l : Launch) (V : Vx) (c0 : Nat) (a1 : Int32) (a2 : Int32) (σ : Sg) (Qk : Sg → Prop) : Prop := Ka l V yX1_wears wsX1_wears (rmz 1) 0 0 [.ref c0, .int a1, .int a2] σ (QV V Qk)
theorem e_X1_wears {l : Launch} {V : Vx} {c0 : Nat} {a1 : Int32} {a2 : Int32} {σ : Sg} {Qk : Sg → Prop} (h : ∀ M : Mx, mL M = l → mV M = V → mN M = 3 → Cx M cX1_wears none RX1 wsX1_wears (rmz 1) 0 0 (QV (mV M) Qk) → PS M 0 [(0, .ref c0), (1, .int a1), (2, .int a2)] [] σ (0, 0)) : K_X1_wears l V c0 a1 a2 σ Qk :=
  Ka_of (by decide +kernel) rfl rfl (Nat.le_of_ble_eq_true rfl) (fun M h1 h2 h3 C => h M h1 h2 h3 (by rw [h2]; exact C))
set_option maxRecDepth 100000 in
set_option maxHeartbeats 4000000 in
theorem s_X1_wears_0 {M : Mx} {Qk : Sg → Prop} (C : Cx M cX1_wears none RX1 wsX1_wears (rmz 1) 0 0 (QV (mV M) Qk)) (hN : mN M = 3) {c0 : Nat} {a1 : Int32} {a2 : Int32} (hc0 : isC c0) {σ : Sg} (h : ((a2 = 0 → (vp_in a1 6 ∧ (∀ v3 : Int32, v3 = jmax (0 : Int32) ((gi σ (c0 + 5) a1.toNatClampNeg) - (2 : Int32)) → (vp_in a1 6 ∧ (∀ σ5 : Sg, σ5 = si σ (c0 + 5) a1.toNatClampNeg v3 → Qk σ5))))) ∧ (¬ a2 = 0 → (vp_in a1 6 ∧ (∀ v7 : Int32, v7 = jmax (0 : Int32) ((gi σ (c0 + 4) a1.toNatClampNeg) - (1 : Int32)) → (vp_in a1 6 ∧ (∀ σ9 : Sg, σ9 = si σ (c0 + 4) a1.toNatClampNeg v7 → (vp_in a1 6 ∧ (∃ f11 : Nat, gr σ9 c0 10 = some f11 ∧ kd f11 = (12, 0) ∧ f11 ∈ ids (mV M) ∧ (∀ v12 : Int32, v12 = jmin (99 : Int32) ((gi σ9 (c0 + 5) a1.toNatClampNeg) + (gi σ9 f11 1)) → (vp_in a1 6 ∧ (∀ σ14 : Sg, σ14 = si σ9 (c0 + 5) a1.toNatClampNeg v12 → Qk σ14)))))))))))) : PS M 0 [(0, .ref c0), (1, .int a1), (2, .int a2)] [] σ (0, 0) := by
  refine P_iload_n C dX1_wears_0 2 rfl ?_
  refine P_if_eq C dX1_wears_1 (tgt := 50) (by decide +kernel) (fun q1 => ?_) (fun q1 => ?_)
  · have h := h.1 q1
    refine P_aload_n C dX1_wears_50 0 rfl ?_
    refine P_getS C (e := (c0 + 5)) fa_X1_wears_34 (kdC_0 hc0) (d := 5) rfl (fxl (fxC_0 hc0)) rfl dX1_wears_51 ?_
    refine P_iload_n C dX1_wears_54 1 rfl ?_
    refine P_iconst C dX1_wears_55 (v := (0 : Int32)) rfl ?_
    refine P_aload_n C dX1_wears_56 0 rfl ?_
    refine P_getS C (e := (c0 + 5)) fa_X1_wears_34 (kdC_0 hc0) (d := 5) rfl (fxl (fxC_0 hc0)) rfl dX1_wears_57 ?_
    refine P_iload_n C dX1_wears_60 1 rfl ?_
    obtain ⟨hv2, h⟩ := h
    refine P_iald C (kdC_5 hc0) (fxl (fxC_5 hc0)) hv2 dX1_wears_61 ?_
    refine P_iconst C dX1_wears_62 (v := (2 : Int32)) rfl ?_
    refine P_isub C dX1_wears_63 ?_
    refine P_max C km_X1_wears_max (by decide +kernel) (Nat.le_of_ble_eq_true rfl) ⟨Nat.le_refl _, Nat.le_refl _⟩ dX1_wears_64 ?_
    refine P_nmi (fun v3 ev3 => ?_)
    have h := h v3 ev3
    obtain ⟨hv4, h⟩ := h
    refine P_iast C (kdC_5 hc0) (fxl (fxC_5 hc0)) hv4 dX1_wears_67 ?_
    refine P_nm (fun σ5 eσ5 => ?_)
    have h := h σ5 eσ5
    exact P_vret C dX1_wears_68 h
  · have h := h.2 q1
    refine P_aload_n C dX1_wears_4 0 rfl ?_
    refine P_getS C (e := (c0 + 4)) fa_X1_wears_31 (kdC_0 hc0) (d := 4) rfl (fxl (fxC_0 hc0)) rfl dX1_wears_5 ?_
    refine P_iload_n C dX1_wears_8 1 rfl ?_
    refine P_iconst C dX1_wears_9 (v := (0 : Int32)) rfl ?_
    refine P_aload_n C dX1_wears_10 0 rfl ?_
    refine P_getS C (e := (c0 + 4)) fa_X1_wears_31 (kdC_0 hc0) (d := 4) rfl (fxl (fxC_0 hc0)) rfl dX1_wears_11 ?_
    refine P_iload_n C dX1_wears_14 1 rfl ?_
    obtain ⟨hv6, h⟩ := h
    refine P_iald C (kdC_4 hc0) (fxl (fxC_4 hc0)) hv6 dX1_wears_15 ?_
    refine P_iconst C dX1_wears_16 (v := (1 : Int32)) rfl ?_
    refine P_isub C dX1_wears_17 ?_
    refine P_max C km_X1_wears_max (by decide +kernel) (Nat.le_of_ble_eq_true rfl) ⟨Nat.le_refl _, Nat.le_refl _⟩ dX1_wears_18 ?_
    refine P_nmi (fun v7 ev7 => ?_)
    have h := h v7 ev7
    obtain ⟨hv8, h⟩ := h
    refine P_iast C (kdC_4 hc0) (fxl (fxC_4 hc0)) hv8 dX1_wears_21 ?_
    refine P_nm (fun σ9 eσ9 => ?_)
    have h := h σ9 eσ9
    refine P_aload_n C dX1_wears_22 0 rfl ?_
    refine P_getS C (e := (c0 + 5)) fa_X1_wears_34 (kdC_0 hc0) (d := 5) rfl (fxl (fxC_0 hc0)) rfl dX1_wears_23 ?_
    refine P_iload_n C dX1_wears_26 1 rfl ?_
    refine P_bipush C dX1_wears_27 (v := (99 : Int32)) rfl ?_
    refine P_aload_n C dX1_wears_29 0 rfl ?_
    refine P_getS C (e := (c0 + 5)) fa_X1_wears_34 (kdC_0 hc0) (d := 5) rfl (fxl (fxC_0 hc0)) rfl dX1_wears_30 ?_
    refine P_iload_n C dX1_wears_33 1 rfl ?_
    obtain ⟨hv10, h⟩ := h
    refine P_iald C (kdC_5 hc0) (fxl (fxC_5 hc0)) hv10 dX1_wears_34 ?_
    refine P_aload_n C dX1_wears_35 0 rfl ?_
    obtain ⟨f11, hrf11, hf11, lf11, h⟩ := h
    refine P_getD C fa_X1_wears_46 (kdC_0 hc0) rfl (fxl (fxC_0 hc0)) hrf11 dX1_wears_36 ?_
    refine P_getI C fa_X1_wears_134 hf11 rfl lf11 dX1_wears_39 ?_
    refine P_iadd C dX1_wears_42 ?_
    refine P_min C km_X1_wears_min (by decide +kernel) (Nat.le_of_ble_eq_true rfl) ⟨Nat.le_refl _, Nat.le_refl _⟩ dX1_wears_43 ?_
    refine P_nmi (fun v12 ev12 => ?_)
    have h := h v12 ev12
    obtain ⟨hv13, h⟩ := h
    refine P_iast C (kdC_5 hc0) (fxl (fxC_5 hc0)) hv13 dX1_wears_46 ?_
    refine P_nm (fun σ14 eσ14 => ?_)
    have h := h σ14 eσ14
    refine P_goto C dX1_wears_47 (tgt := 68) (by decide +kernel) ?_
    exact P_vret C dX1_wears_68 h
theorem fa_X1_passes_17 : FA RX1 wsX1_passes 17 1 1 "NineMowers$Course" := by
  show _ ∧ _ ∧ _ ∧ _
  exact ⟨by decide +kernel, fun _ h => List.mem_cons_of_mem _ (List.mem_append_right _ h), List.mem_of_getElem? (i := 1) rfl, Or.inl rfl⟩
theorem fa_X1_passes_43 : FA RX1 wsX1_passes 43 1 9 "NineMowers$Course" := by
  show _ ∧ _ ∧ _ ∧ _
  exact ⟨by decide +kernel, fun _ h => List.mem_cons_of_mem _ (List.mem_append_right _ h), List.mem_of_getElem? (i := 8) rfl, Or.inl rfl⟩
theorem pa_X1_passes_43 : PA RX1 wsX1_passes 43 1 9 "NineMowers$Course" .int := by
  show _ ∧ _ ∧ _ ∧ _ ∧ _ ∧ _ ∧ _ ∧ _
  exact ⟨by decide +kernel, fun _ h => List.mem_cons_of_mem _ (List.mem_append_right _ h), List.mem_of_getElem? (i := 8) rfl, rfl, rfl, by decide +kernel, ⟨tyX1, tyX1_ok⟩, nmX1⟩
theorem fa_X1_passes_34 : FA RX1 wsX1_passes 34 1 6 "NineMowers$Course" := by
  show _ ∧ _ ∧ _ ∧ _
  exact ⟨by decide +kernel, fun _ h => List.mem_cons_of_mem _ (List.mem_append_right _ h), List.mem_of_getElem? (i := 2) rfl, Or.inl rfl⟩
theorem km_X1_passes_max : KM RX1 wsX1_passes 131 Lib.Math.max.name Lib.Math.max.code := ⟨List.mem_of_getElem? (i := 3) rfl, List.mem_of_getElem? (i := 4) rfl, List.mem_of_getElem? (i := 5) rfl, List.mem_of_getElem? (i := 6) rfl⟩
theorem fa_X1_passes_37 : FA RX1 wsX1_passes 37 1 7 "NineMowers$Course" := by
  show _ ∧ _ ∧ _ ∧ _
  exact ⟨by decide +kernel, fun _ h => List.mem_cons_of_mem _ (List.mem_append_right _ h), List.mem_of_getElem? (i := 7) rfl, Or.inl rfl⟩
noncomputable def K_X1_passes (l : Launch) (V : Vx) (c0 : Nat) (a1 : Int32) (a2 : Int32) (σ : Sg) (Qk : Sg → Prop) : Prop := Ka l V yX1_passes wsX1_passes (rmz 1) 0 0 [.ref c0, .int a1, .int a2] σ (QV V Qk)
theorem e_X1_passes {l : Launch} {V : Vx} {c0 : Nat} {a1 : Int32} {a2 : Int32} {σ : Sg} {Qk : Sg → Prop} (h : ∀ M : Mx, mL M = l → mV M = V → mN M = 4 → Cx M cX1_passes none RX1 wsX1_passes (rmz 1) 0 0 (QV (mV M) Qk) → PS M 0 [(0, .ref c0), (1, .int a1), (2, .int a2)] [] σ (0, 0)) : K_X1_passes l V c0 a1 a2 σ Qk :=
  Ka_of (by decide +kernel) rfl rfl (Nat.le_of_ble_eq_true rfl) (fun M h1 h2 h3 C => h M h1 h2 h3 (by rw [h2]; exact C))
set_option maxRecDepth 100000 in
set_option maxHeartbeats 4000000 in
theorem s_X1_passes_0 {M : Mx} {Qk : Sg → Prop} (C : Cx M cX1_passes none RX1 wsX1_passes (rmz 1) 0 0 (QV (mV M) Qk)) (hN : mN M = 4) {c0 : Nat} {a1 : Int32} {a2 : Int32} (hc0 : isC c0) {σ : Sg} (h : PS M 2 [(0, .ref c0), (1, .int a1), (2, .int a2), (3, .int (0 : Int32))] [] σ (0, 0)) : PS M 0 [(0, .ref c0), (1, .int a1), (2, .int a2)] [] σ (0, 0) := by
  refine P_iconst C dX1_passes_0 (v := (0 : Int32)) rfl ?_
  refine P_istore_n C dX1_passes_1 (by rw [hN]; decide) rfl ?_
  exact P_sub [1, 2, 3, 0] rfl h
set_option maxRecDepth 100000 in
set_option maxHeartbeats 4000000 in
theorem s_X1_passes_2 {M : Mx} {Qk : Sg → Prop} (C : Cx M cX1_passes none RX1 wsX1_passes (rmz 1) 0 0 (QV (mV M) Qk)) (hN : mN M = 4) {x0 : Nat} {x1 : Int32} {x2 : Int32} {x3 : Int32} (hx0 : isC x0) {σ : Sg} (h : (((gi σ x0 1) ≤ x3 → (∀ σ2 : Sg, σ2 = si σ x0 9 ((gi σ x0 9) + x1) → Qk σ2)) ∧ (¬ (gi σ x0 1) ≤ x3 → (vp_in x3 6 ∧ (∀ v4 : Int32, v4 = jmax (0 : Int32) ((gi σ (x0 + 5) x3.toNatClampNeg) - x2) → (vp_in x3 6 ∧ (∀ σ6 : Sg, σ6 = si σ (x0 + 5) x3.toNatClampNeg v4 → (vp_in x3 6 ∧ (∀ v8 : Int32, v8 = jmax (0 : Int32) ((gi σ6 (x0 + 6) x3.toNatClampNeg) - x1) → (vp_in x3 6 ∧ (∀ σ10 : Sg, σ10 = si σ6 (x0 + 6) x3.toNatClampNeg v8 → (∀ v11 : Int32, v11 = x3 + 1 → PS M 2 [(0, .ref x0), (1, .int x1), (2, .int x2), (3, .int v11)] [] σ10 (0, 0))))))))))))) : PS M 2 [(0, .ref x0), (1, .int x1), (2, .int x2), (3, .int x3)] [] σ (0, 0) := by
  refine P_iload_n C dX1_passes_2 3 rfl ?_
  refine P_aload_n C dX1_passes_3 0 rfl ?_
  refine P_getI C fa_X1_passes_17 (kdC_0 hx0) rfl (fxl (fxC_0 hx0)) dX1_passes_4 ?_
  refine P_icmp_ge C dX1_passes_7 (tgt := 52) (by decide +kernel) (fun q1 => ?_) (fun q1 => ?_)
  · have h := h.1 q1
    refine P_aload_n C dX1_passes_52 0 rfl ?_
    refine P_dup C dX1_passes_53 rfl ?_
    refine P_getI C fa_X1_passes_43 (kdC_0 hx0) rfl (fxl (fxC_0 hx0)) dX1_passes_54 ?_
    refine P_iload_n C dX1_passes_57 1 rfl ?_
    refine P_iadd C dX1_passes_58 ?_
    refine P_putI C pa_X1_passes_43 (kdC_0 hx0) rfl (fxl (fxC_0 hx0)) dX1_passes_59 ?_
    refine P_nm (fun σ2 eσ2 => ?_)
    have h := h σ2 eσ2
    exact P_vret C dX1_passes_62 h
  · have h := h.2 q1
    refine P_aload_n C dX1_passes_10 0 rfl ?_
    refine P_getS C (e := (x0 + 5)) fa_X1_passes_34 (kdC_0 hx0) (d := 5) rfl (fxl (fxC_0 hx0)) rfl dX1_passes_11 ?_
    refine P_iload_n C dX1_passes_14 3 rfl ?_
    refine P_iconst C dX1_passes_15 (v := (0 : Int32)) rfl ?_
    refine P_aload_n C dX1_passes_16 0 rfl ?_
    refine P_getS C (e := (x0 + 5)) fa_X1_passes_34 (kdC_0 hx0) (d := 5) rfl (fxl (fxC_0 hx0)) rfl dX1_passes_17 ?_
    refine P_iload_n C dX1_passes_20 3 rfl ?_
    obtain ⟨hv3, h⟩ := h
    refine P_iald C (kdC_5 hx0) (fxl (fxC_5 hx0)) hv3 dX1_passes_21 ?_
    refine P_iload_n C dX1_passes_22 2 rfl ?_
    refine P_isub C dX1_passes_23 ?_
    refine P_max C km_X1_passes_max (by decide +kernel) (Nat.le_of_ble_eq_true rfl) ⟨Nat.le_refl _, Nat.le_refl _⟩ dX1_passes_24 ?_
    refine P_nmi (fun v4 ev4 => ?_)
    have h := h v4 ev4
    obtain ⟨hv5, h⟩ := h
    refine P_iast C (kdC_5 hx0) (fxl (fxC_5 hx0)) hv5 dX1_passes_27 ?_
    refine P_nm (fun σ6 eσ6 => ?_)
    have h := h σ6 eσ6
    refine P_aload_n C dX1_passes_28 0 rfl ?_
    refine P_getS C (e := (x0 + 6)) fa_X1_passes_37 (kdC_0 hx0) (d := 6) rfl (fxl (fxC_0 hx0)) rfl dX1_passes_29 ?_
    refine P_iload_n C dX1_passes_32 3 rfl ?_
    refine P_iconst C dX1_passes_33 (v := (0 : Int32)) rfl ?_
    refine P_aload_n C dX1_passes_34 0 rfl ?_
    refine P_getS C (e := (x0 + 6)) fa_X1_passes_37 (kdC_0 hx0) (d := 6) rfl (fxl (fxC_0 hx0)) rfl dX1_passes_35 ?_
    refine P_iload_n C dX1_passes_38 3 rfl ?_
    obtain ⟨hv7, h⟩ := h
    refine P_iald C (kdC_6 hx0) (fxl (fxC_6 hx0)) hv7 dX1_passes_39 ?_
    refine P_iload_n C dX1_passes_40 1 rfl ?_
    refine P_isub C dX1_passes_41 ?_
    refine P_max C km_X1_passes_max (by decide +kernel) (Nat.le_of_ble_eq_true rfl) ⟨Nat.le_refl _, Nat.le_refl _⟩ dX1_passes_42 ?_
    refine P_nmi (fun v8 ev8 => ?_)
    have h := h v8 ev8
    obtain ⟨hv9, h⟩ := h
    refine P_iast C (kdC_6 hx0) (fxl (fxC_6 hx0)) hv9 dX1_passes_45 ?_
    refine P_nm (fun σ10 eσ10 => ?_)
    have h := h σ10 eσ10
    obtain ⟨v11, ev11⟩ : ∃ v : Int32, v = x3 + 1 := ⟨_, rfl⟩
    have h := h v11 ev11
    refine P_iinc (v := v11) C dX1_passes_46 3 rfl (by rw [ev11]; rfl) (by rw [hN]; decide) rfl ?_
    refine P_goto C dX1_passes_49 (tgt := 2) (by decide +kernel) ?_
    exact P_sub [1, 2, 3, 0] rfl h
theorem fa_X1_allAt_17 : FA RX1 wsX1_allAt 17 1 1 "NineMowers$Course" := by
  show _ ∧ _ ∧ _ ∧ _
  exact ⟨by decide +kernel, fun _ h => List.mem_cons_of_mem _ (List.mem_append_right _ h), List.mem_of_getElem? (i := 1) rfl, Or.inl rfl⟩
theorem fa_X1_allAt_28 : FA RX1 wsX1_allAt 28 1 4 "NineMowers$Course" := by
  show _ ∧ _ ∧ _ ∧ _
  exact ⟨by decide +kernel, fun _ h => List.mem_cons_of_mem _ (List.mem_append_right _ h), List.mem_of_getElem? (i := 2) rfl, Or.inl rfl⟩
noncomputable def K_X1_allAt (l : Launch) (V : Vx) (c0 : Nat) (σ : Sg) (Qk : Int32 → Sg → Prop) : Prop := Ka l V yX1_allAt wsX1_allAt (rmz 0) 0 0 [.ref c0] σ (QI V Qk)
theorem e_X1_allAt {l : Launch} {V : Vx} {c0 : Nat} {σ : Sg} {Qk : Int32 → Sg → Prop} (h : ∀ M : Mx, mL M = l → mV M = V → mN M = 3 → Cx M cX1_allAt (some .int) RX1 wsX1_allAt (rmz 0) 0 0 (QI (mV M) Qk) → PS M 0 [(0, .ref c0)] [] σ (0, 0)) : K_X1_allAt l V c0 σ Qk :=
  Ka_of (by decide +kernel) rfl rfl (Nat.le_of_ble_eq_true rfl) (fun M h1 h2 h3 C => h M h1 h2 h3 (by rw [h2]; exact C))
set_option maxRecDepth 100000 in
set_option maxHeartbeats 4000000 in
theorem s_X1_allAt_0 {M : Mx} {Qk : Int32 → Sg → Prop} (C : Cx M cX1_allAt (some .int) RX1 wsX1_allAt (rmz 0) 0 0 (QI (mV M) Qk)) (hN : mN M = 3) {c0 : Nat} (hc0 : isC c0) {σ : Sg} (h : PS M 4 [(0, .ref c0), (1, .int (0 : Int32)), (2, .int (0 : Int32))] [] σ (0, 0)) : PS M 0 [(0, .ref c0)] [] σ (0, 0) := by
  refine P_iconst C dX1_allAt_0 (v := (0 : Int32)) rfl ?_
  refine P_istore_n C dX1_allAt_1 (by rw [hN]; decide) rfl ?_
  refine P_iconst C dX1_allAt_2 (v := (0 : Int32)) rfl ?_
  refine P_istore_n C dX1_allAt_3 (by rw [hN]; decide) rfl ?_
  exact P_sub [2, 1, 0] rfl h
set_option maxRecDepth 100000 in
set_option maxHeartbeats 4000000 in
theorem s_X1_allAt_4 {M : Mx} {Qk : Int32 → Sg → Prop} (C : Cx M cX1_allAt (some .int) RX1 wsX1_allAt (rmz 0) 0 0 (QI (mV M) Qk)) (hN : mN M = 3) {x0 : Nat} {x1 : Int32} {x2 : Int32} (hx0 : isC x0) {σ : Sg} (h : (((gi σ x0 1) ≤ x2 → Qk x1 σ) ∧ (¬ (gi σ x0 1) ≤ x2 → (vp_in x2 6 ∧ (∀ v3 : Int32, v3 = x1 + (gi σ (x0 + 3) x2.toNatClampNeg) → (∀ v4 : Int32, v4 = x2 + 1 → PS M 4 [(0, .ref x0), (1, .int v3), (2, .int v4)] [] σ (0, 0))))))) : PS M 4 [(0, .ref x0), (1, .int x1), (2, .int x2)] [] σ (0, 0) := by
  refine P_iload_n C dX1_allAt_4 2 rfl ?_
  refine P_aload_n C dX1_allAt_5 0 rfl ?_
  refine P_getI C fa_X1_allAt_17 (kdC_0 hx0) rfl (fxl (fxC_0 hx0)) dX1_allAt_6 ?_
  refine P_icmp_ge C dX1_allAt_9 (tgt := 27) (by decide +kernel) (fun q1 => ?_) (fun q1 => ?_)
  · have h := h.1 q1
    refine P_iload_n C dX1_allAt_27 1 rfl ?_
    exact P_iret C dX1_allAt_28 h
  · have h := h.2 q1
    refine P_iload_n C dX1_allAt_12 1 rfl ?_
    refine P_aload_n C dX1_allAt_13 0 rfl ?_
    refine P_getS C (e := (x0 + 3)) fa_X1_allAt_28 (kdC_0 hx0) (d := 3) rfl (fxl (fxC_0 hx0)) rfl dX1_allAt_14 ?_
    refine P_iload_n C dX1_allAt_17 2 rfl ?_
    obtain ⟨hv2, h⟩ := h
    refine P_iald C (kdC_3 hx0) (fxl (fxC_3 hx0)) hv2 dX1_allAt_18 ?_
    refine P_iadd C dX1_allAt_19 ?_
    refine P_nmi (fun v3 ev3 => ?_)
    have h := h v3 ev3
    refine P_istore_n C dX1_allAt_20 (by rw [hN]; decide) rfl ?_
    obtain ⟨v4, ev4⟩ : ∃ v : Int32, v = x2 + 1 := ⟨_, rfl⟩
    have h := h v4 ev4
    refine P_iinc (v := v4) C dX1_allAt_21 2 rfl (by rw [ev4]; rfl) (by rw [hN]; decide) rfl ?_
    refine P_goto C dX1_allAt_24 (tgt := 4) (by decide +kernel) ?_
    exact P_sub [2, 1, 0] rfl h
theorem fa_X2_sign_40 : FA RX2 wsX2_sign 40 2 9 "NineMowers$Field" := by
  show _ ∧ _ ∧ _ ∧ _
  exact ⟨by decide +kernel, fun _ h => List.mem_cons_of_mem _ (List.mem_append_right _ h), List.mem_of_getElem? (i := 1) rfl, Or.inl rfl⟩
theorem fa_X2_sign_47 : FA RX2 wsX2_sign 47 2 11 "NineMowers$Field" := by
  show _ ∧ _ ∧ _ ∧ _
  exact ⟨by decide +kernel, fun _ h => List.mem_cons_of_mem _ (List.mem_append_right _ h), List.mem_of_getElem? (i := 2) rfl, Or.inl rfl⟩
theorem fa_X2_sign_44 : FA RX2 wsX2_sign 44 2 10 "NineMowers$Field" := by
  show _ ∧ _ ∧ _ ∧ _
  exact ⟨by decide +kernel, fun _ h => List.mem_cons_of_mem _ (List.mem_append_right _ h), List.mem_of_getElem? (i := 3) rfl, Or.inl rfl⟩
noncomputable def K_X2_sign (l : Launch) (V : Vx) (c0 : Nat) (σ : Sg) (Qk : Int32 → Sg → Prop) : Prop := Ka l V yX2_sign wsX2_sign (rmz 0) 0 0 [.ref c0] σ (QI V Qk)
theorem e_X2_sign {l : Launch} {V : Vx} {c0 : Nat} {σ : Sg} {Qk : Int32 → Sg → Prop} (h : ∀ M : Mx, mL M = l → mV M = V → mN M = 1 → Cx M cX2_sign (some .int) RX2 wsX2_sign (rmz 0) 0 0 (QI (mV M) Qk) → PS M 0 [(0, .ref c0)] [] σ (0, 0)) : K_X2_sign l V c0 σ Qk :=
  Ka_of (by decide +kernel) rfl rfl (Nat.le_of_ble_eq_true rfl) (fun M h1 h2 h3 C => h M h1 h2 h3 (by rw [h2]; exact C))
set_option maxRecDepth 100000 in
set_option maxHeartbeats 4000000 in
theorem s_X2_sign_0 {M : Mx} {Qk : Int32 → Sg → Prop} (C : Cx M cX2_sign (some .int) RX2 wsX2_sign (rmz 0) 0 0 (QI (mV M) Qk)) (hN : mN M = 1) {c0 : Nat} (hc0 : kd c0 = (12, 0)) (lc0 : c0 ∈ ids (mV M)) {σ : Sg} (h : ((gr σ c0 9 = none → Qk (-1 : Int32) σ) ∧ (∀ a4 : Nat, gr σ c0 9 = some a4 → (((gi σ c0 10) ≤ (gi σ c0 11) → Qk (-1 : Int32) σ) ∧ (¬ (gi σ c0 10) ≤ (gi σ c0 11) → (∃ (a2 na2 : Nat), gr σ c0 9 = some a2 ∧ kd a2 = (1, na2) ∧ a2 ∈ ids (mV M) ∧ (vp_in (gi σ c0 11) na2 ∧ Qk (gi σ a2 (gi σ c0 11).toNatClampNeg) σ))))))) : PS M 0 [(0, .ref c0)] [] σ (0, 0) := by
  refine P_aload_n C dX2_sign_0 0 rfl ?_
  rcases hra4 : gr σ c0 9 with _ | a4
  · have h := h.1 hra4
    refine P_getN C fa_X2_sign_40 hc0 rfl lc0 hra4 dX2_sign_1 ?_
    refine P_ifnullN C dX2_sign_4 (tgt := 30) (by decide +kernel) ?_
    refine P_iconst C dX2_sign_30 (v := (-1 : Int32)) rfl ?_
    exact P_iret C dX2_sign_31 h
  · have h := h.2 a4 hra4
    refine P_getD C fa_X2_sign_40 hc0 rfl lc0 hra4 dX2_sign_1 ?_
    refine P_ifnull C dX2_sign_4 ?_
    refine P_aload_n C dX2_sign_7 0 rfl ?_
    refine P_getI C fa_X2_sign_47 hc0 rfl lc0 dX2_sign_8 ?_
    refine P_aload_n C dX2_sign_11 0 rfl ?_
    refine P_getI C fa_X2_sign_44 hc0 rfl lc0 dX2_sign_12 ?_
    refine P_icmp_ge C dX2_sign_15 (tgt := 30) (by decide +kernel) (fun q1 => ?_) (fun q1 => ?_)
    · have h := h.1 q1
      refine P_iconst C dX2_sign_30 (v := (-1 : Int32)) rfl ?_
      exact P_iret C dX2_sign_31 h
    · have h := h.2 q1
      refine P_aload_n C dX2_sign_18 0 rfl ?_
      obtain ⟨a2, na2, hra2, ha2, la2, h⟩ := h
      refine P_getD C fa_X2_sign_40 hc0 rfl lc0 hra2 dX2_sign_19 ?_
      refine P_aload_n C dX2_sign_22 0 rfl ?_
      refine P_getI C fa_X2_sign_47 hc0 rfl lc0 dX2_sign_23 ?_
      obtain ⟨hv3, h⟩ := h
      refine P_bald C ha2 la2 hv3 dX2_sign_26 ?_
      refine P_goto C dX2_sign_27 (tgt := 31) (by decide +kernel) ?_
      exact P_iret C dX2_sign_31 h
theorem kv_X2_isDigit_X2_sign : KV RX2 wsX2_isDigit (rmz 1) 130 RX2 yX2_sign wsX2_sign (rmz 0) 0 := ⟨_, _, _, _, gX2_isDigit_X2_sign, rfl, by decide +kernel, by decide +kernel⟩
noncomputable def K_X2_isDigit (l : Launch) (V : Vx) (c0 : Nat) (σ : Sg) (Qk : Int32 → Sg → Prop) : Prop := Ka l V yX2_isDigit wsX2_isDigit (rmz 1) 0 0 [.ref c0] σ (QI V Qk)
theorem e_X2_isDigit {l : Launch} {V : Vx} {c0 : Nat} {σ : Sg} {Qk : Int32 → Sg → Prop} (h : ∀ M : Mx, mL M = l → mV M = V → mN M = 1 → Cx M cX2_isDigit (some .boolean) RX2 wsX2_isDigit (rmz 1) 0 0 (QI (mV M) Qk) → PS M 0 [(0, .ref c0)] [] σ (0, 0)) : K_X2_isDigit l V c0 σ Qk :=
  Ka_of (by decide +kernel) rfl rfl (Nat.le_of_ble_eq_true rfl) (fun M h1 h2 h3 C => h M h1 h2 h3 (by rw [h2]; exact C))
set_option maxRecDepth 100000 in
set_option maxHeartbeats 4000000 in
theorem s_X2_isDigit_0 {M : Mx} {Qk : Int32 → Sg → Prop} (C : Cx M cX2_isDigit (some .boolean) RX2 wsX2_isDigit (rmz 1) 0 0 (QI (mV M) Qk)) (hN : mN M = 1) {c0 : Nat} (hc0 : kd c0 = (12, 0)) (lc0 : c0 ∈ ids (mV M)) {σ : Sg} (h : K_X2_sign (mL M) (mV M) c0 σ (fun r2 σ1 => ((r2 < (48 : Int32) → Qk (0 : Int32) σ1) ∧ (¬ r2 < (48 : Int32) → K_X2_sign (mL M) (mV M) c0 σ1 (fun r5 σ4 => (((57 : Int32) < r5 → Qk (0 : Int32) σ4) ∧ (¬ (57 : Int32) < r5 → Qk (1 : Int32) σ4))))))) : PS M 0 [(0, .ref c0)] [] σ (0, 0) := by
  refine P_aload_n C dX2_isDigit_0 0 rfl ?_
  refine P_ci (R_v (ci := 2) C kv_X2_isDigit_X2_sign (As := []) rfl hc0 rfl lc0 (Nat.le_of_ble_eq_true rfl) dX2_isDigit_1 ⟨Nat.le_refl _, Nat.le_refl _⟩ h) (fun r2 σ1 h => ?_)
  refine P_bipush C dX2_isDigit_4 (v := (48 : Int32)) rfl ?_
  refine P_icmp_lt C dX2_isDigit_6 (tgt := 22) (by decide +kernel) (fun q3 => ?_) (fun q3 => ?_)
  · have h := h.1 q3
    refine P_iconst C dX2_isDigit_22 (v := (0 : Int32)) rfl ?_
    exact P_zret C (by decide +kernel) dX2_isDigit_23 h
  · have h := h.2 q3
    refine P_aload_n C dX2_isDigit_9 0 rfl ?_
    refine P_ci (R_v (ci := 2) C kv_X2_isDigit_X2_sign (As := []) rfl hc0 rfl lc0 (Nat.le_of_ble_eq_true rfl) dX2_isDigit_10 ⟨Nat.le_refl _, Nat.le_refl _⟩ h) (fun r5 σ4 h => ?_)
    refine P_bipush C dX2_isDigit_13 (v := (57 : Int32)) rfl ?_
    refine P_icmp_gt C dX2_isDigit_15 (tgt := 22) (by decide +kernel) (fun q6 => ?_) (fun q6 => ?_)
    · have h := h.1 q6
      refine P_iconst C dX2_isDigit_22 (v := (0 : Int32)) rfl ?_
      exact P_zret C (by decide +kernel) dX2_isDigit_23 h
    · have h := h.2 q6
      refine P_iconst C dX2_isDigit_18 (v := (1 : Int32)) rfl ?_
      refine P_goto C dX2_isDigit_19 (tgt := 23) (by decide +kernel) ?_
      exact P_zret C (by decide +kernel) dX2_isDigit_23 h
theorem kv_X2_takes_X2_sign : KV RX2 wsX2_takes (rmz 1) 130 RX2 yX2_sign wsX2_sign (rmz 0) 0 := ⟨_, _, _, _, gX2_takes_X2_sign, rfl, by decide +kernel, by decide +kernel⟩
theorem fa_X2_takes_47 : FA RX2 wsX2_takes 47 2 11 "NineMowers$Field" := by
  show _ ∧ _ ∧ _ ∧ _
  exact ⟨by decide +kernel, fun _ h => List.mem_cons_of_mem _ (List.mem_append_right _ h), List.mem_of_getElem? (i := 1) rfl, Or.inl rfl⟩
theorem pa_X2_takes_47 : PA RX2 wsX2_takes 47 2 11 "NineMowers$Field" .int := by
  show _ ∧ _ ∧ _ ∧ _ ∧ _ ∧ _ ∧ _ ∧ _
  exact ⟨by decide +kernel, fun _ h => List.mem_cons_of_mem _ (List.mem_append_right _ h), List.mem_of_getElem? (i := 1) rfl, rfl, rfl, by decide +kernel, ⟨tyX2, tyX2_ok⟩, nmX2⟩
noncomputable def K_X2_takes (l : Launch) (V : Vx) (c0 : Nat) (a1 : Int32) (σ : Sg) (Qk : Int32 → Sg → Prop) : Prop := Ka l V yX2_takes wsX2_takes (rmz 1) 0 0 [.ref c0, .int a1] σ (QI V Qk)
theorem e_X2_takes {l : Launch} {V : Vx} {c0 : Nat} {a1 : Int32} {σ : Sg} {Qk : Int32 → Sg → Prop} (h : ∀ M : Mx, mL M = l → mV M = V → mN M = 2 → Cx M cX2_takes (some .boolean) RX2 wsX2_takes (rmz 1) 0 0 (QI (mV M) Qk) → PS M 0 [(0, .ref c0), (1, .int a1)] [] σ (0, 0)) : K_X2_takes l V c0 a1 σ Qk :=
  Ka_of (by decide +kernel) rfl rfl (Nat.le_of_ble_eq_true rfl) (fun M h1 h2 h3 C => h M h1 h2 h3 (by rw [h2]; exact C))
set_option maxRecDepth 100000 in
set_option maxHeartbeats 4000000 in
theorem s_X2_takes_0 {M : Mx} {Qk : Int32 → Sg → Prop} (C : Cx M cX2_takes (some .boolean) RX2 wsX2_takes (rmz 1) 0 0 (QI (mV M) Qk)) (hN : mN M = 2) {c0 : Nat} {a1 : Int32} (hc0 : kd c0 = (12, 0)) (lc0 : c0 ∈ ids (mV M)) {σ : Sg} (h : K_X2_sign (mL M) (mV M) c0 σ (fun r2 σ1 => ((r2 = a1 → (∀ σ4 : Sg, σ4 = si σ1 c0 11 ((gi σ1 c0 11) + (1 : Int32)) → Qk (1 : Int32) σ4)) ∧ (¬ r2 = a1 → Qk (0 : Int32) σ1)))) : PS M 0 [(0, .ref c0), (1, .int a1)] [] σ (0, 0) := by
  refine P_aload_n C dX2_takes_0 0 rfl ?_
  refine P_ci (R_v (ci := 2) C kv_X2_takes_X2_sign (As := []) rfl hc0 rfl lc0 (Nat.le_of_ble_eq_true rfl) dX2_takes_1 ⟨Nat.le_refl _, Nat.le_refl _⟩ h) (fun r2 σ1 h => ?_)
  refine P_iload_n C dX2_takes_4 1 rfl ?_
  refine P_icmp_eq C dX2_takes_5 (tgt := 10) (by decide +kernel) (fun q3 => ?_) (fun q3 => ?_)
  · have h := h.1 q3
    refine P_aload_n C dX2_takes_10 0 rfl ?_
    refine P_dup C dX2_takes_11 rfl ?_
    refine P_getI C fa_X2_takes_47 hc0 rfl lc0 dX2_takes_12 ?_
    refine P_iconst C dX2_takes_15 (v := (1 : Int32)) rfl ?_
    refine P_iadd C dX2_takes_16 ?_
    refine P_putI C pa_X2_takes_47 hc0 rfl lc0 dX2_takes_17 ?_
    refine P_nm (fun σ4 eσ4 => ?_)
    have h := h σ4 eσ4
    refine P_iconst C dX2_takes_20 (v := (1 : Int32)) rfl ?_
    exact P_zret C (by decide +kernel) dX2_takes_21 h
  · have h := h.2 q3
    refine P_iconst C dX2_takes_8 (v := (0 : Int32)) rfl ?_
    exact P_zret C (by decide +kernel) dX2_takes_9 h
theorem fa_X2_writes_25 : FA RX2 wsX2_writes 25 2 4 "NineMowers$Field" := by
  show _ ∧ _ ∧ _ ∧ _
  exact ⟨by decide +kernel, fun _ h => List.mem_cons_of_mem _ (List.mem_append_right _ h), List.mem_of_getElem? (i := 1) rfl, Or.inl rfl⟩
theorem fa_X2_writes_21 : FA RX2 wsX2_writes 21 2 3 "NineMowers$Field" := by
  show _ ∧ _ ∧ _ ∧ _
  exact ⟨by decide +kernel, fun _ h => List.mem_cons_of_mem _ (List.mem_append_right _ h), List.mem_of_getElem? (i := 2) rfl, Or.inl rfl⟩
theorem pa_X2_writes_25 : PA RX2 wsX2_writes 25 2 4 "NineMowers$Field" .int := by
  show _ ∧ _ ∧ _ ∧ _ ∧ _ ∧ _ ∧ _ ∧ _
  exact ⟨by decide +kernel, fun _ h => List.mem_cons_of_mem _ (List.mem_append_right _ h), List.mem_of_getElem? (i := 1) rfl, rfl, rfl, by decide +kernel, ⟨tyX2, tyX2_ok⟩, nmX2⟩
noncomputable def K_X2_writes (l : Launch) (V : Vx) (c0 : Nat) (a1 : Int32) (σ : Sg) (Qk : Sg → Prop) : Prop := Ka l V yX2_writes wsX2_writes (rmz 0) 0 0 [.ref c0, .int a1] σ (QV V Qk)
theorem e_X2_writes {l : Launch} {V : Vx} {c0 : Nat} {a1 : Int32} {σ : Sg} {Qk : Sg → Prop} (h : ∀ M : Mx, mL M = l → mV M = V → mN M = 2 → Cx M cX2_writes none RX2 wsX2_writes (rmz 0) 0 0 (QV (mV M) Qk) → PS M 0 [(0, .ref c0), (1, .int a1)] [] σ (0, 0)) : K_X2_writes l V c0 a1 σ Qk :=
  Ka_of (by decide +kernel) rfl rfl (Nat.le_of_ble_eq_true rfl) (fun M h1 h2 h3 C => h M h1 h2 h3 (by rw [h2]; exact C))
set_option maxRecDepth 100000 in
set_option maxHeartbeats 4000000 in
theorem s_X2_writes_0 {M : Mx} {Qk : Sg → Prop} (C : Cx M cX2_writes none RX2 wsX2_writes (rmz 0) 0 0 (QV (mV M) Qk)) (hN : mN M = 2) {c0 : Nat} {a1 : Int32} (hc0 : kd c0 = (12, 0)) (lc0 : c0 ∈ ids (mV M)) {σ : Sg} (h : (((100 : Int32) ≤ (gi σ c0 4) → Qk σ) ∧ (¬ (100 : Int32) ≤ (gi σ c0 4) → (vp_in (gi σ c0 4) 100 ∧ (∀ σ3 : Sg, σ3 = si σ (c0 + 1) (gi σ c0 4).toNatClampNeg a1 → (∀ σ4 : Sg, σ4 = si σ3 c0 4 ((gi σ3 c0 4) + (1 : Int32)) → Qk σ4)))))) : PS M 0 [(0, .ref c0), (1, .int a1)] [] σ (0, 0) := by
  refine P_aload_n C dX2_writes_0 0 rfl ?_
  refine P_getI C fa_X2_writes_25 hc0 rfl lc0 dX2_writes_1 ?_
  refine P_aload_n C dX2_writes_4 0 rfl ?_
  refine P_getS C (e := (c0 + 1)) fa_X2_writes_21 hc0 (d := 1) rfl lc0 rfl dX2_writes_5 ?_
  refine P_alen C (kdF_1 hc0) (by decide +kernel) (lvF_1 C hc0 lc0) (v := (100 : Int32)) rfl dX2_writes_8 ?_
  refine P_icmp_ge C dX2_writes_9 (tgt := 32) (by decide +kernel) (fun q1 => ?_) (fun q1 => ?_)
  · have h := h.1 q1
    exact P_vret C dX2_writes_32 h
  · have h := h.2 q1
    refine P_aload_n C dX2_writes_12 0 rfl ?_
    refine P_getS C (e := (c0 + 1)) fa_X2_writes_21 hc0 (d := 1) rfl lc0 rfl dX2_writes_13 ?_
    refine P_aload_n C dX2_writes_16 0 rfl ?_
    refine P_getI C fa_X2_writes_25 hc0 rfl lc0 dX2_writes_17 ?_
    refine P_iload_n C dX2_writes_20 1 rfl ?_
    obtain ⟨hv2, h⟩ := h
    refine P_iast C (kdF_1 hc0) (lvF_1 C hc0 lc0) hv2 dX2_writes_21 ?_
    refine P_nm (fun σ3 eσ3 => ?_)
    have h := h σ3 eσ3
    refine P_aload_n C dX2_writes_22 0 rfl ?_
    refine P_dup C dX2_writes_23 rfl ?_
    refine P_getI C fa_X2_writes_25 hc0 rfl lc0 dX2_writes_24 ?_
    refine P_iconst C dX2_writes_27 (v := (1 : Int32)) rfl ?_
    refine P_iadd C dX2_writes_28 ?_
    refine P_putI C pa_X2_writes_25 hc0 rfl lc0 dX2_writes_29 ?_
    refine P_nm (fun σ4 eσ4 => ?_)
    have h := h σ4 eσ4
    exact P_vret C dX2_writes_32 h
theorem fa_X2_holds_25 : FA RX2 wsX2_holds 25 2 4 "NineMowers$Field" := by
  show _ ∧ _ ∧ _ ∧ _
  exact ⟨by decide +kernel, fun _ h => List.mem_cons_of_mem _ (List.mem_append_right _ h), List.mem_of_getElem? (i := 1) rfl, Or.inl rfl⟩
theorem fa_X2_holds_21 : FA RX2 wsX2_holds 21 2 3 "NineMowers$Field" := by
  show _ ∧ _ ∧ _ ∧ _
  exact ⟨by decide +kernel, fun _ h => List.mem_cons_of_mem _ (List.mem_append_right _ h), List.mem_of_getElem? (i := 2) rfl, Or.inl rfl⟩
noncomputable def K_X2_holds (l : Launch) (V : Vx) (c0 : Nat) (a1 : Int32) (a2 : Int32) (a3 : Nat) (σ : Sg) (Qk : Int32 → Sg → Prop) : Prop := Ka l V yX2_holds wsX2_holds (rmz 0) 0 0 [.ref c0, .int a1, .int a2, .ref a3] σ (QI V Qk)
theorem e_X2_holds {l : Launch} {V : Vx} {c0 : Nat} {a1 : Int32} {a2 : Int32} {a3 : Nat} {σ : Sg} {Qk : Int32 → Sg → Prop} (h : ∀ M : Mx, mL M = l → mV M = V → mN M = 10 → Cx M cX2_holds (some .boolean) RX2 wsX2_holds (rmz 0) 0 0 (QI (mV M) Qk) → PS M 0 [(0, .ref c0), (1, .int a1), (2, .int a2), (3, .ref a3)] [] σ (0, 0)) : K_X2_holds l V c0 a1 a2 a3 σ Qk :=
  Ka_of (by decide +kernel) rfl rfl (Nat.le_of_ble_eq_true rfl) (fun M h1 h2 h3 C => h M h1 h2 h3 (by rw [h2]; exact C))
set_option maxRecDepth 100000 in
set_option maxHeartbeats 4000000 in
theorem s_X2_holds_0 {M : Mx} {Qk : Int32 → Sg → Prop} (C : Cx M cX2_holds (some .boolean) RX2 wsX2_holds (rmz 0) 0 0 (QI (mV M) Qk)) (hN : mN M = 10) {c0 : Nat} {a1 : Int32} {a2 : Int32} {a3 : Nat} (hc0 : kd c0 = (12, 0)) (lc0 : c0 ∈ ids (mV M)) {na3 : Nat} (ha3 : kd a3 = (0, na3)) (la3 : a3 ∈ ids (mV M)) {σ : Sg} (h : PS M 6 [(0, .ref c0), (2, .int a2), (3, .ref a3), (4, .int (0 : Int32)), (5, .int a1)] [] σ (0, 0)) : PS M 0 [(0, .ref c0), (1, .int a1), (2, .int a2), (3, .ref a3)] [] σ (0, 0) := by
  refine P_iconst C dX2_holds_0 (v := (0 : Int32)) rfl ?_
  refine P_istore C dX2_holds_1 (by rw [hN]; decide) rfl ?_
  refine P_iload_n C dX2_holds_3 2 rfl ?_
  refine P_istore C dX2_holds_4 (by rw [hN]; decide) rfl ?_
  exact P_sub [2, 4, 5, 1, 0] rfl h
set_option maxRecDepth 100000 in
set_option maxHeartbeats 4000000 in
theorem s_X2_holds_6 {M : Mx} {Qk : Int32 → Sg → Prop} (C : Cx M cX2_holds (some .boolean) RX2 wsX2_holds (rmz 0) 0 0 (QI (mV M) Qk)) (hN : mN M = 10) {x0 : Nat} {x2 : Int32} {x3 : Nat} {x4 : Int32} {x5 : Int32} (hx0 : kd x0 = (12, 0)) (lx0 : x0 ∈ ids (mV M)) {nx3 : Nat} (hx3 : kd x3 = (0, nx3)) (lx3 : x3 ∈ ids (mV M)) {σ : Sg} (h : ((x2 ≤ x5 → PS M 187 [(4, .int x4)] [] σ (0, 0)) ∧ (¬ x2 ≤ x5 → (((gi σ x0 4) ≤ x5 → PS M 187 [(4, .int x4)] [] σ (0, 0)) ∧ (¬ (gi σ x0 4) ≤ x5 → (vp_in x5 100 ∧ (∀ v4 : Int32, v4 = gi σ (x0 + 1) x5.toNatClampNeg → ((v4 < 0 → ((¬ v4 = (-1 : Int32) → (∀ v7 : Int32, v7 = x4 &&& (1 : Int32) → (∀ v8 : Int32, v8 = x4 >>> ((1 : Int32) &&& 31) → ((¬ v4 = (-3 : Int32) → (∀ v10 : Int32, v10 = v8 &&& ((-2 : Int32) ||| v7) → (∀ v11 : Int32, v11 = x5 + 1 → PS M 6 [(0, .ref x0), (2, .int x2), (3, .ref x3), (4, .int v10), (5, .int v11)] [] σ (0, 0)))) ∧ (v4 = (-3 : Int32) → (∀ v12 : Int32, v12 = v8 ||| v7 → (∀ v13 : Int32, v13 = x5 + 1 → PS M 6 [(0, .ref x0), (2, .int x2), (3, .ref x3), (4, .int v12), (5, .int v13)] [] σ (0, 0)))))))) ∧ (v4 = (-1 : Int32) → (∀ v14 : Int32, v14 = x4 ^^^ (1 : Int32) → (∀ v15 : Int32, v15 = x5 + 1 → PS M 6 [(0, .ref x0), (2, .int x2), (3, .ref x3), (4, .int v14), (5, .int v15)] [] σ (0, 0)))))) ∧ (¬ v4 < 0 → (vp_in (v4 / (300 : Int32)) nx3 ∧ (∀ v17 : Int32, v17 = (gi σ x3 (v4 / (300 : Int32)).toNatClampNeg) - (v4 - v4 / (100 : Int32) * (100 : Int32)) → (∀ v18 : Int32, v18 = (v4 / (100 : Int32)) - (v4 / (100 : Int32)) / (3 : Int32) * (3 : Int32) → ((¬ v18 = 0 → ((¬ v18 = (1 : Int32) → ((v17 ≤ 0 → PS M 107 [(0, .ref x0), (2, .int x2), (3, .ref x3), (4, .int x4), (5, .int x5)] [.int (0 : Int32)] σ (0, 0)) ∧ (¬ v17 ≤ 0 → PS M 107 [(0, .ref x0), (2, .int x2), (3, .ref x3), (4, .int x4), (5, .int x5)] [.int (1 : Int32)] σ (0, 0)))) ∧ (v18 = (1 : Int32) → ((¬ v17 = 0 → PS M 107 [(0, .ref x0), (2, .int x2), (3, .ref x3), (4, .int x4), (5, .int x5)] [.int (0 : Int32)] σ (0, 0)) ∧ (v17 = 0 → PS M 107 [(0, .ref x0), (2, .int x2), (3, .ref x3), (4, .int x4), (5, .int x5)] [.int (1 : Int32)] σ (0, 0)))))) ∧ (v18 = 0 → ((0 ≤ v17 → PS M 107 [(0, .ref x0), (2, .int x2), (3, .ref x3), (4, .int x4), (5, .int x5)] [.int (0 : Int32)] σ (0, 0)) ∧ (¬ 0 ≤ v17 → PS M 107 [(0, .ref x0), (2, .int x2), (3, .ref x3), (4, .int x4), (5, .int x5)] [.int (1 : Int32)] σ (0, 0))))))))))))))))) : PS M 6 [(0, .ref x0), (2, .int x2), (3, .ref x3), (4, .int x4), (5, .int x5)] [] σ (0, 0) := by
  refine P_iload C dX2_holds_6 4 rfl ?_
  refine P_iload_n C dX2_holds_8 1 rfl ?_
  refine P_icmp_ge C dX2_holds_9 (tgt := 187) (by decide +kernel) (fun q1 => ?_) (fun q1 => ?_)
  · have h := h.1 q1
    exact P_sub [3] rfl h
  · have h := h.2 q1
    refine P_iload C dX2_holds_12 4 rfl ?_
    refine P_aload_n C dX2_holds_14 0 rfl ?_
    refine P_getI C fa_X2_holds_25 hx0 rfl lx0 dX2_holds_15 ?_
    refine P_icmp_ge C dX2_holds_18 (tgt := 187) (by decide +kernel) (fun q2 => ?_) (fun q2 => ?_)
    · have h := h.1 q2
      exact P_sub [3] rfl h
    · have h := h.2 q2
      refine P_aload_n C dX2_holds_21 0 rfl ?_
      refine P_getS C (e := (x0 + 1)) fa_X2_holds_21 hx0 (d := 1) rfl lx0 rfl dX2_holds_22 ?_
      refine P_iload C dX2_holds_25 4 rfl ?_
      obtain ⟨hv3, h⟩ := h
      refine P_iald C (kdF_1 hx0) (lvF_1 C hx0 lx0) hv3 dX2_holds_27 ?_
      refine P_nmi (fun v4 ev4 => ?_)
      have h := h v4 ev4
      refine P_istore C dX2_holds_28 (by rw [hN]; decide) rfl ?_
      refine P_iload C dX2_holds_30 0 rfl ?_
      refine P_if_lt C dX2_holds_32 (tgt := 129) (by decide +kernel) (fun q5 => ?_) (fun q5 => ?_)
      · have h := h.1 q5
        refine P_iload C dX2_holds_129 0 rfl ?_
        refine P_iconst C dX2_holds_131 (v := (-1 : Int32)) rfl ?_
        refine P_icmp_ne C dX2_holds_132 (tgt := 144) (by decide +kernel) (fun q6 => ?_) (fun q6 => ?_)
        · have h := h.1 q6
          refine P_iload C dX2_holds_144 4 rfl ?_
          refine P_iconst C dX2_holds_146 (v := (1 : Int32)) rfl ?_
          refine P_iand C dX2_holds_147 ?_
          refine P_nmi (fun v7 ev7 => ?_)
          have h := h v7 ev7
          refine P_istore C dX2_holds_148 (by rw [hN]; decide) rfl ?_
          refine P_iload C dX2_holds_150 5 rfl ?_
          refine P_iconst C dX2_holds_152 (v := (1 : Int32)) rfl ?_
          refine P_ishr C dX2_holds_153 ?_
          refine P_nmi (fun v8 ev8 => ?_)
          have h := h v8 ev8
          refine P_istore C dX2_holds_154 (by rw [hN]; decide) rfl ?_
          refine P_iload C dX2_holds_156 2 rfl ?_
          refine P_bipush C dX2_holds_158 (v := (-3 : Int32)) rfl ?_
          refine P_icmp_ne C dX2_holds_160 (tgt := 171) (by decide +kernel) (fun q9 => ?_) (fun q9 => ?_)
          · have h := h.1 q9
            refine P_iload C dX2_holds_171 0 rfl ?_
            refine P_bipush C dX2_holds_173 (v := (-2 : Int32)) rfl ?_
            refine P_iload C dX2_holds_175 1 rfl ?_
            refine P_ior C dX2_holds_177 ?_
            refine P_iand C dX2_holds_178 ?_
            refine P_nmi (fun v10 ev10 => ?_)
            have h := h v10 ev10
            refine P_istore C dX2_holds_179 (by rw [hN]; decide) rfl ?_
            obtain ⟨v11, ev11⟩ : ∃ v : Int32, v = x5 + 1 := ⟨_, rfl⟩
            have h := h v11 ev11
            refine P_iinc (v := v11) C dX2_holds_181 6 rfl (by rw [ev11]; rfl) (by rw [hN]; decide) rfl ?_
            refine P_goto C dX2_holds_184 (tgt := 6) (by decide +kernel) ?_
            exact P_sub [4, 5, 6, 1, 0] rfl h
          · have h := h.2 q9
            refine P_iload C dX2_holds_163 0 rfl ?_
            refine P_iload C dX2_holds_165 1 rfl ?_
            refine P_ior C dX2_holds_167 ?_
            refine P_goto C dX2_holds_168 (tgt := 179) (by decide +kernel) ?_
            refine P_nmi (fun v12 ev12 => ?_)
            have h := h v12 ev12
            refine P_istore C dX2_holds_179 (by rw [hN]; decide) rfl ?_
            obtain ⟨v13, ev13⟩ : ∃ v : Int32, v = x5 + 1 := ⟨_, rfl⟩
            have h := h v13 ev13
            refine P_iinc (v := v13) C dX2_holds_181 6 rfl (by rw [ev13]; rfl) (by rw [hN]; decide) rfl ?_
            refine P_goto C dX2_holds_184 (tgt := 6) (by decide +kernel) ?_
            exact P_sub [4, 5, 6, 1, 0] rfl h
        · have h := h.2 q6
          refine P_iload C dX2_holds_135 4 rfl ?_
          refine P_iconst C dX2_holds_137 (v := (1 : Int32)) rfl ?_
          refine P_ixor C dX2_holds_138 ?_
          refine P_nmi (fun v14 ev14 => ?_)
          have h := h v14 ev14
          refine P_istore C dX2_holds_139 (by rw [hN]; decide) rfl ?_
          refine P_goto C dX2_holds_141 (tgt := 181) (by decide +kernel) ?_
          obtain ⟨v15, ev15⟩ : ∃ v : Int32, v = x5 + 1 := ⟨_, rfl⟩
          have h := h v15 ev15
          refine P_iinc (v := v15) C dX2_holds_181 5 rfl (by rw [ev15]; rfl) (by rw [hN]; decide) rfl ?_
          refine P_goto C dX2_holds_184 (tgt := 6) (by decide +kernel) ?_
          exact P_sub [3, 4, 5, 1, 0] rfl h
      · have h := h.2 q5
        refine P_aload_n C dX2_holds_35 3 rfl ?_
        refine P_iload C dX2_holds_36 0 rfl ?_
        refine P_sipush C dX2_holds_38 (v := (300 : Int32)) rfl ?_
        refine P_idiv C dX2_holds_41 (by decide +kernel) ?_
        obtain ⟨hv16, h⟩ := h
        refine P_iald C hx3 lx3 hv16 dX2_holds_42 ?_
        refine P_iload C dX2_holds_43 0 rfl ?_
        refine P_bipush C dX2_holds_45 (v := (100 : Int32)) rfl ?_
        refine P_irem C dX2_holds_47 (by decide +kernel) ?_
        refine P_isub C dX2_holds_48 ?_
        refine P_nmi (fun v17 ev17 => ?_)
        have h := h v17 ev17
        refine P_istore C dX2_holds_49 (by rw [hN]; decide) rfl ?_
        refine P_iload C dX2_holds_51 1 rfl ?_
        refine P_bipush C dX2_holds_53 (v := (100 : Int32)) rfl ?_
        refine P_idiv C dX2_holds_55 (by decide +kernel) ?_
        refine P_iconst C dX2_holds_56 (v := (3 : Int32)) rfl ?_
        refine P_irem C dX2_holds_57 (by decide +kernel) ?_
        refine P_nmi (fun v18 ev18 => ?_)
        have h := h v18 ev18
        refine P_istore C dX2_holds_58 (by rw [hN]; decide) rfl ?_
        refine P_iload C dX2_holds_60 0 rfl ?_
        refine P_if_ne C dX2_holds_62 (tgt := 78) (by decide +kernel) (fun q19 => ?_) (fun q19 => ?_)
        · have h := h.1 q19
          refine P_iload C dX2_holds_78 0 rfl ?_
          refine P_iconst C dX2_holds_80 (v := (1 : Int32)) rfl ?_
          refine P_icmp_ne C dX2_holds_81 (tgt := 97) (by decide +kernel) (fun q20 => ?_) (fun q20 => ?_)
          · have h := h.1 q20
            refine P_iload C dX2_holds_97 1 rfl ?_
            refine P_if_le C dX2_holds_99 (tgt := 106) (by decide +kernel) (fun q21 => ?_) (fun q21 => ?_)
            · have h := h.1 q21
              refine P_iconst C dX2_holds_106 (v := (0 : Int32)) rfl ?_
              exact P_sub [3, 4, 5, 6, 7] rfl h
            · have h := h.2 q21
              refine P_iconst C dX2_holds_102 (v := (1 : Int32)) rfl ?_
              refine P_goto C dX2_holds_103 (tgt := 107) (by decide +kernel) ?_
              exact P_sub [3, 4, 5, 6, 7] rfl h
          · have h := h.2 q20
            refine P_iload C dX2_holds_84 1 rfl ?_
            refine P_if_ne C dX2_holds_86 (tgt := 93) (by decide +kernel) (fun q22 => ?_) (fun q22 => ?_)
            · have h := h.1 q22
              refine P_iconst C dX2_holds_93 (v := (0 : Int32)) rfl ?_
              refine P_goto C dX2_holds_94 (tgt := 107) (by decide +kernel) ?_
              exact P_sub [3, 4, 5, 6, 7] rfl h
            · have h := h.2 q22
              refine P_iconst C dX2_holds_89 (v := (1 : Int32)) rfl ?_
              refine P_goto C dX2_holds_90 (tgt := 107) (by decide +kernel) ?_
              exact P_sub [3, 4, 5, 6, 7] rfl h
        · have h := h.2 q19
          refine P_iload C dX2_holds_65 1 rfl ?_
          refine P_if_ge C dX2_holds_67 (tgt := 74) (by decide +kernel) (fun q23 => ?_) (fun q23 => ?_)
          · have h := h.1 q23
            refine P_iconst C dX2_holds_74 (v := (0 : Int32)) rfl ?_
            refine P_goto C dX2_holds_75 (tgt := 107) (by decide +kernel) ?_
            exact P_sub [3, 4, 5, 6, 7] rfl h
          · have h := h.2 q23
            refine P_iconst C dX2_holds_70 (v := (1 : Int32)) rfl ?_
            refine P_goto C dX2_holds_71 (tgt := 107) (by decide +kernel) ?_
            exact P_sub [3, 4, 5, 6, 7] rfl h
set_option maxRecDepth 100000 in
set_option maxHeartbeats 4000000 in
theorem s_X2_holds_187 {M : Mx} {Qk : Int32 → Sg → Prop} (C : Cx M cX2_holds (some .boolean) RX2 wsX2_holds (rmz 0) 0 0 (QI (mV M) Qk)) (hN : mN M = 10) {x4 : Int32} {σ : Sg} (h : ((¬ (x4 &&& (1 : Int32)) = (1 : Int32) → Qk (0 : Int32) σ) ∧ ((x4 &&& (1 : Int32)) = (1 : Int32) → Qk (1 : Int32) σ))) : PS M 187 [(4, .int x4)] [] σ (0, 0) := by
  refine P_iload C dX2_holds_187 0 rfl ?_
  refine P_iconst C dX2_holds_189 (v := (1 : Int32)) rfl ?_
  refine P_iand C dX2_holds_190 ?_
  refine P_iconst C dX2_holds_191 (v := (1 : Int32)) rfl ?_
  refine P_icmp_ne C dX2_holds_192 (tgt := 199) (by decide +kernel) (fun q1 => ?_) (fun q1 => ?_)
  · have h := h.1 q1
    refine P_iconst C dX2_holds_199 (v := (0 : Int32)) rfl ?_
    exact P_zret C (by decide +kernel) dX2_holds_200 h
  · have h := h.2 q1
    refine P_iconst C dX2_holds_195 (v := (1 : Int32)) rfl ?_
    refine P_goto C dX2_holds_196 (tgt := 200) (by decide +kernel) ?_
    exact P_zret C (by decide +kernel) dX2_holds_200 h
set_option maxRecDepth 100000 in
set_option maxHeartbeats 4000000 in
theorem s_X2_holds_107 {M : Mx} {Qk : Int32 → Sg → Prop} (C : Cx M cX2_holds (some .boolean) RX2 wsX2_holds (rmz 0) 0 0 (QI (mV M) Qk)) (hN : mN M = 10) {x0 : Nat} {x2 : Int32} {x3 : Nat} {x4 : Int32} {x5 : Int32} {z0 : Int32} (hx0 : kd x0 = (12, 0)) (lx0 : x0 ∈ ids (mV M)) {nx3 : Nat} (hx3 : kd x3 = (0, nx3)) (lx3 : x3 ∈ ids (mV M)) {σ : Sg} (h : ((z0 = 0 → (∀ v2 : Int32, v2 = (x4 <<< ((1 : Int32) &&& 31)) ||| (0 : Int32) → (∀ v3 : Int32, v3 = x5 + 1 → PS M 6 [(0, .ref x0), (2, .int x2), (3, .ref x3), (4, .int v2), (5, .int v3)] [] σ (0, 0)))) ∧ (¬ z0 = 0 → (∀ v4 : Int32, v4 = (x4 <<< ((1 : Int32) &&& 31)) ||| (1 : Int32) → (∀ v5 : Int32, v5 = x5 + 1 → PS M 6 [(0, .ref x0), (2, .int x2), (3, .ref x3), (4, .int v4), (5, .int v5)] [] σ (0, 0)))))) : PS M 107 [(0, .ref x0), (2, .int x2), (3, .ref x3), (4, .int x4), (5, .int x5)] [.int z0] σ (0, 0) := by
  refine P_istore C dX2_holds_107 (by rw [hN]; decide) rfl ?_
  refine P_iload C dX2_holds_109 4 rfl ?_
  refine P_iconst C dX2_holds_111 (v := (1 : Int32)) rfl ?_
  refine P_ishl C dX2_holds_112 ?_
  refine P_iload C dX2_holds_113 0 rfl ?_
  refine P_if_eq C dX2_holds_115 (tgt := 122) (by decide +kernel) (fun q1 => ?_) (fun q1 => ?_)
  · have h := h.1 q1
    refine P_iconst C dX2_holds_122 (v := (0 : Int32)) rfl ?_
    refine P_ior C dX2_holds_123 ?_
    refine P_nmi (fun v2 ev2 => ?_)
    have h := h v2 ev2
    refine P_istore C dX2_holds_124 (by rw [hN]; decide) rfl ?_
    refine P_goto C dX2_holds_126 (tgt := 181) (by decide +kernel) ?_
    obtain ⟨v3, ev3⟩ : ∃ v : Int32, v = x5 + 1 := ⟨_, rfl⟩
    have h := h v3 ev3
    refine P_iinc (v := v3) C dX2_holds_181 5 rfl (by rw [ev3]; rfl) (by rw [hN]; decide) rfl ?_
    refine P_goto C dX2_holds_184 (tgt := 6) (by decide +kernel) ?_
    exact P_sub [3, 4, 5, 1, 0] rfl h
  · have h := h.2 q1
    refine P_iconst C dX2_holds_118 (v := (1 : Int32)) rfl ?_
    refine P_goto C dX2_holds_119 (tgt := 123) (by decide +kernel) ?_
    refine P_ior C dX2_holds_123 ?_
    refine P_nmi (fun v4 ev4 => ?_)
    have h := h v4 ev4
    refine P_istore C dX2_holds_124 (by rw [hN]; decide) rfl ?_
    refine P_goto C dX2_holds_126 (tgt := 181) (by decide +kernel) ?_
    obtain ⟨v5, ev5⟩ : ∃ v : Int32, v = x5 + 1 := ⟨_, rfl⟩
    have h := h v5 ev5
    refine P_iinc (v := v5) C dX2_holds_181 5 rfl (by rw [ev5]; rfl) (by rw [hN]; decide) rfl ?_
    refine P_goto C dX2_holds_184 (tgt := 6) (by decide +kernel) ?_
    exact P_sub [3, 4, 5, 1, 0] rfl h
theorem fa_X2_fault_47 : FA RX2 wsX2_fault 47 2 11 "NineMowers$Field" := by
  show _ ∧ _ ∧ _ ∧ _
  exact ⟨by decide +kernel, fun _ h => List.mem_cons_of_mem _ (List.mem_append_right _ h), List.mem_of_getElem? (i := 1) rfl, Or.inl rfl⟩
noncomputable def K_X2_fault (l : Launch) (V : Vx) (c0 : Nat) (σ : Sg) (Qk : Int32 → Sg → Prop) : Prop := Ka l V yX2_fault wsX2_fault (rmz 0) 0 0 [.ref c0] σ (QI V Qk)
theorem e_X2_fault {l : Launch} {V : Vx} {c0 : Nat} {σ : Sg} {Qk : Int32 → Sg → Prop} (h : ∀ M : Mx, mL M = l → mV M = V → mN M = 1 → Cx M cX2_fault (some .int) RX2 wsX2_fault (rmz 0) 0 0 (QI (mV M) Qk) → PS M 0 [(0, .ref c0)] [] σ (0, 0)) : K_X2_fault l V c0 σ Qk :=
  Ka_of (by decide +kernel) rfl rfl (Nat.le_of_ble_eq_true rfl) (fun M h1 h2 h3 C => h M h1 h2 h3 (by rw [h2]; exact C))
set_option maxRecDepth 100000 in
set_option maxHeartbeats 4000000 in
theorem s_X2_fault_0 {M : Mx} {Qk : Int32 → Sg → Prop} (C : Cx M cX2_fault (some .int) RX2 wsX2_fault (rmz 0) 0 0 (QI (mV M) Qk)) (hN : mN M = 1) {c0 : Nat} (hc0 : kd c0 = (12, 0)) (lc0 : c0 ∈ ids (mV M)) {σ : Sg} (h : Qk (gi σ c0 11) σ) : PS M 0 [(0, .ref c0)] [] σ (0, 0) := by
  refine P_aload_n C dX2_fault_0 0 rfl ?_
  refine P_getI C fa_X2_fault_47 hc0 rfl lc0 dX2_fault_1 ?_
  exact P_iret C dX2_fault_4 h
theorem km_X2_keeps_max : KM RX2 wsX2_keeps 107 Lib.Math.max.name Lib.Math.max.code := ⟨List.mem_of_getElem? (i := 3) rfl, List.mem_of_getElem? (i := 4) rfl, List.mem_of_getElem? (i := 5) rfl, List.mem_of_getElem? (i := 6) rfl⟩
theorem pa_X2_keeps_18 : PA RX2 wsX2_keeps 18 2 2 "NineMowers$Field" .int := by
  show _ ∧ _ ∧ _ ∧ _ ∧ _ ∧ _ ∧ _ ∧ _
  exact ⟨by decide +kernel, fun _ h => List.mem_cons_of_mem _ (List.mem_append_right _ h), List.mem_of_getElem? (i := 7) rfl, rfl, rfl, by decide +kernel, ⟨tyX2, tyX2_ok⟩, nmX2⟩
theorem pa_X2_keeps_15 : PA RX2 wsX2_keeps 15 2 1 "NineMowers$Field" .int := by
  show _ ∧ _ ∧ _ ∧ _ ∧ _ ∧ _ ∧ _ ∧ _
  exact ⟨by decide +kernel, fun _ h => List.mem_cons_of_mem _ (List.mem_append_right _ h), List.mem_of_getElem? (i := 2) rfl, rfl, rfl, by decide +kernel, ⟨tyX2, tyX2_ok⟩, nmX2⟩
theorem pa_X2_keeps_9 : PA RX2 wsX2_keeps 9 2 0 "NineMowers$Field" .int := by
  show _ ∧ _ ∧ _ ∧ _ ∧ _ ∧ _ ∧ _ ∧ _
  exact ⟨by decide +kernel, fun _ h => List.mem_cons_of_mem _ (List.mem_append_right _ h), List.mem_of_getElem? (i := 1) rfl, rfl, rfl, by decide +kernel, ⟨tyX2, tyX2_ok⟩, nmX2⟩
theorem fa_X2_keeps_37 : FA RX2 wsX2_keeps 37 2 8 "NineMowers$Field" := by
  show _ ∧ _ ∧ _ ∧ _
  exact ⟨by decide +kernel, fun _ h => List.mem_cons_of_mem _ (List.mem_append_right _ h), List.mem_of_getElem? (i := 8) rfl, Or.inl rfl⟩
theorem fa_X2_keeps_28 : FA RX2 wsX2_keeps 28 2 5 "NineMowers$Field" := by
  show _ ∧ _ ∧ _ ∧ _
  exact ⟨by decide +kernel, fun _ h => List.mem_cons_of_mem _ (List.mem_append_right _ h), List.mem_of_getElem? (i := 9) rfl, Or.inl rfl⟩
theorem fa_X2_keeps_31 : FA RX2 wsX2_keeps 31 2 6 "NineMowers$Field" := by
  show _ ∧ _ ∧ _ ∧ _
  exact ⟨by decide +kernel, fun _ h => List.mem_cons_of_mem _ (List.mem_append_right _ h), List.mem_of_getElem? (i := 10) rfl, Or.inl rfl⟩
theorem fa_X2_keeps_34 : FA RX2 wsX2_keeps 34 2 7 "NineMowers$Field" := by
  show _ ∧ _ ∧ _ ∧ _
  exact ⟨by decide +kernel, fun _ h => List.mem_cons_of_mem _ (List.mem_append_right _ h), List.mem_of_getElem? (i := 11) rfl, Or.inl rfl⟩
theorem fa_X2_keeps_25 : FA RX2 wsX2_keeps 25 2 4 "NineMowers$Field" := by
  show _ ∧ _ ∧ _ ∧ _
  exact ⟨by decide +kernel, fun _ h => List.mem_cons_of_mem _ (List.mem_append_right _ h), List.mem_of_getElem? (i := 12) rfl, Or.inl rfl⟩
theorem pa_X2_keeps_37 : PA RX2 wsX2_keeps 37 2 8 "NineMowers$Field" .int := by
  show _ ∧ _ ∧ _ ∧ _ ∧ _ ∧ _ ∧ _ ∧ _
  exact ⟨by decide +kernel, fun _ h => List.mem_cons_of_mem _ (List.mem_append_right _ h), List.mem_of_getElem? (i := 8) rfl, rfl, rfl, by decide +kernel, ⟨tyX2, tyX2_ok⟩, nmX2⟩
noncomputable def K_X2_keeps (l : Launch) (V : Vx) (c0 : Nat) (a1 : Int32) (a2 : Int32) (σ : Sg) (Qk : Sg → Prop) : Prop := Ka l V yX2_keeps wsX2_keeps (rmz 1) 0 0 [.ref c0, .int a1, .int a2] σ (QV V Qk)
theorem e_X2_keeps {l : Launch} {V : Vx} {c0 : Nat} {a1 : Int32} {a2 : Int32} {σ : Sg} {Qk : Sg → Prop} (h : ∀ M : Mx, mL M = l → mV M = V → mN M = 3 → Cx M cX2_keeps none RX2 wsX2_keeps (rmz 1) 0 0 (QV (mV M) Qk) → PS M 0 [(0, .ref c0), (1, .int a1), (2, .int a2)] [] σ (0, 0)) : K_X2_keeps l V c0 a1 a2 σ Qk :=
  Ka_of (by decide +kernel) rfl rfl (Nat.le_of_ble_eq_true rfl) (fun M h1 h2 h3 C => h M h1 h2 h3 (by rw [h2]; exact C))
set_option maxRecDepth 100000 in
set_option maxHeartbeats 4000000 in
theorem s_X2_keeps_0 {M : Mx} {Qk : Sg → Prop} (C : Cx M cX2_keeps none RX2 wsX2_keeps (rmz 1) 0 0 (QV (mV M) Qk)) (hN : mN M = 3) {c0 : Nat} {a1 : Int32} {a2 : Int32} (hc0 : kd c0 = (12, 0)) (lc0 : c0 ∈ ids (mV M)) {σ : Sg} (h : ((¬ a1 = (2 : Int32) → ((¬ a1 = (3 : Int32) → ((a1 ≤ (3 : Int32) → PS M 40 [(0, .ref c0), (1, .int a1), (2, .int a2)] [] σ (0, 0)) ∧ (¬ a1 ≤ (3 : Int32) → (∀ v4 : Int32, v4 = jmax (1 : Int32) a2 → (∀ σ5 : Sg, σ5 = si σ c0 2 v4 → PS M 40 [(0, .ref c0), (1, .int a1), (2, .int a2)] [] σ5 (0, 0)))))) ∧ (a1 = (3 : Int32) → (∀ σ6 : Sg, σ6 = si σ c0 1 a2 → PS M 40 [(0, .ref c0), (1, .int a1), (2, .int a2)] [] σ6 (0, 0))))) ∧ (a1 = (2 : Int32) → (∀ σ7 : Sg, σ7 = si σ c0 0 a2 → PS M 40 [(0, .ref c0), (1, .int a1), (2, .int a2)] [] σ7 (0, 0))))) : PS M 0 [(0, .ref c0), (1, .int a1), (2, .int a2)] [] σ (0, 0) := by
  refine P_iload_n C dX2_keeps_0 1 rfl ?_
  refine P_iconst C dX2_keeps_1 (v := (2 : Int32)) rfl ?_
  refine P_icmp_ne C dX2_keeps_2 (tgt := 13) (by decide +kernel) (fun q1 => ?_) (fun q1 => ?_)
  · have h := h.1 q1
    refine P_iload_n C dX2_keeps_13 1 rfl ?_
    refine P_iconst C dX2_keeps_14 (v := (3 : Int32)) rfl ?_
    refine P_icmp_ne C dX2_keeps_15 (tgt := 26) (by decide +kernel) (fun q2 => ?_) (fun q2 => ?_)
    · have h := h.1 q2
      refine P_iload_n C dX2_keeps_26 1 rfl ?_
      refine P_iconst C dX2_keeps_27 (v := (3 : Int32)) rfl ?_
      refine P_icmp_le C dX2_keeps_28 (tgt := 40) (by decide +kernel) (fun q3 => ?_) (fun q3 => ?_)
      · have h := h.1 q3
        exact P_sub [0, 1, 2] rfl h
      · have h := h.2 q3
        refine P_aload_n C dX2_keeps_31 0 rfl ?_
        refine P_iconst C dX2_keeps_32 (v := (1 : Int32)) rfl ?_
        refine P_iload_n C dX2_keeps_33 2 rfl ?_
        refine P_max C km_X2_keeps_max (by decide +kernel) (Nat.le_of_ble_eq_true rfl) ⟨Nat.le_refl _, Nat.le_refl _⟩ dX2_keeps_34 ?_
        refine P_nmi (fun v4 ev4 => ?_)
        have h := h v4 ev4
        refine P_putI C pa_X2_keeps_18 hc0 rfl lc0 dX2_keeps_37 ?_
        refine P_nm (fun σ5 eσ5 => ?_)
        have h := h σ5 eσ5
        exact P_sub [0, 1, 2] rfl h
    · have h := h.2 q2
      refine P_aload_n C dX2_keeps_18 0 rfl ?_
      refine P_iload_n C dX2_keeps_19 2 rfl ?_
      refine P_putI C pa_X2_keeps_15 hc0 rfl lc0 dX2_keeps_20 ?_
      refine P_nm (fun σ6 eσ6 => ?_)
      have h := h σ6 eσ6
      refine P_goto C dX2_keeps_23 (tgt := 40) (by decide +kernel) ?_
      exact P_sub [0, 1, 2] rfl h
  · have h := h.2 q1
    refine P_aload_n C dX2_keeps_5 0 rfl ?_
    refine P_iload_n C dX2_keeps_6 2 rfl ?_
    refine P_putI C pa_X2_keeps_9 hc0 rfl lc0 dX2_keeps_7 ?_
    refine P_nm (fun σ7 eσ7 => ?_)
    have h := h σ7 eσ7
    refine P_goto C dX2_keeps_10 (tgt := 40) (by decide +kernel) ?_
    exact P_sub [0, 1, 2] rfl h
set_option maxRecDepth 100000 in
set_option maxHeartbeats 4000000 in
theorem s_X2_keeps_40 {M : Mx} {Qk : Sg → Prop} (C : Cx M cX2_keeps none RX2 wsX2_keeps (rmz 1) 0 0 (QV (mV M) Qk)) (hN : mN M = 3) {x0 : Nat} {x1 : Int32} {x2 : Int32} (hx0 : kd x0 = (12, 0)) (lx0 : x0 ∈ ids (mV M)) {σ : Sg} (h : (((10 : Int32) ≤ (gi σ x0 8) → Qk σ) ∧ (¬ (10 : Int32) ≤ (gi σ x0 8) → (vp_in (gi σ x0 8) 10 ∧ (∀ σ3 : Sg, σ3 = si σ (x0 + 2) (gi σ x0 8).toNatClampNeg x1 → (vp_in (gi σ3 x0 8) 10 ∧ (∀ σ5 : Sg, σ5 = si σ3 (x0 + 3) (gi σ3 x0 8).toNatClampNeg x2 → (vp_in (gi σ5 x0 8) 10 ∧ (∀ σ7 : Sg, σ7 = si σ5 (x0 + 4) (gi σ5 x0 8).toNatClampNeg (gi σ5 x0 4) → (∀ σ8 : Sg, σ8 = si σ7 x0 8 ((gi σ7 x0 8) + (1 : Int32)) → Qk σ8)))))))))) : PS M 40 [(0, .ref x0), (1, .int x1), (2, .int x2)] [] σ (0, 0) := by
  refine P_aload_n C dX2_keeps_40 0 rfl ?_
  refine P_getI C fa_X2_keeps_37 hx0 rfl lx0 dX2_keeps_41 ?_
  refine P_bipush C dX2_keeps_44 (v := (10 : Int32)) rfl ?_
  refine P_icmp_ge C dX2_keeps_46 (tgt := 92) (by decide +kernel) (fun q1 => ?_) (fun q1 => ?_)
  · have h := h.1 q1
    exact P_vret C dX2_keeps_92 h
  · have h := h.2 q1
    refine P_aload_n C dX2_keeps_49 0 rfl ?_
    refine P_getS C (e := (x0 + 2)) fa_X2_keeps_28 hx0 (d := 2) rfl lx0 rfl dX2_keeps_50 ?_
    refine P_aload_n C dX2_keeps_53 0 rfl ?_
    refine P_getI C fa_X2_keeps_37 hx0 rfl lx0 dX2_keeps_54 ?_
    refine P_iload_n C dX2_keeps_57 1 rfl ?_
    obtain ⟨hv2, h⟩ := h
    refine P_iast C (kdF_2 hx0) (lvF_2 C hx0 lx0) hv2 dX2_keeps_58 ?_
    refine P_nm (fun σ3 eσ3 => ?_)
    have h := h σ3 eσ3
    refine P_aload_n C dX2_keeps_59 0 rfl ?_
    refine P_getS C (e := (x0 + 3)) fa_X2_keeps_31 hx0 (d := 3) rfl lx0 rfl dX2_keeps_60 ?_
    refine P_aload_n C dX2_keeps_63 0 rfl ?_
    refine P_getI C fa_X2_keeps_37 hx0 rfl lx0 dX2_keeps_64 ?_
    refine P_iload_n C dX2_keeps_67 2 rfl ?_
    obtain ⟨hv4, h⟩ := h
    refine P_iast C (kdF_3 hx0) (lvF_3 C hx0 lx0) hv4 dX2_keeps_68 ?_
    refine P_nm (fun σ5 eσ5 => ?_)
    have h := h σ5 eσ5
    refine P_aload_n C dX2_keeps_69 0 rfl ?_
    refine P_getS C (e := (x0 + 4)) fa_X2_keeps_34 hx0 (d := 4) rfl lx0 rfl dX2_keeps_70 ?_
    refine P_aload_n C dX2_keeps_73 0 rfl ?_
    refine P_getI C fa_X2_keeps_37 hx0 rfl lx0 dX2_keeps_74 ?_
    refine P_aload_n C dX2_keeps_77 0 rfl ?_
    refine P_getI C fa_X2_keeps_25 hx0 rfl lx0 dX2_keeps_78 ?_
    obtain ⟨hv6, h⟩ := h
    refine P_iast C (kdF_4 hx0) (lvF_4 C hx0 lx0) hv6 dX2_keeps_81 ?_
    refine P_nm (fun σ7 eσ7 => ?_)
    have h := h σ7 eσ7
    refine P_aload_n C dX2_keeps_82 0 rfl ?_
    refine P_dup C dX2_keeps_83 rfl ?_
    refine P_getI C fa_X2_keeps_37 hx0 rfl lx0 dX2_keeps_84 ?_
    refine P_iconst C dX2_keeps_87 (v := (1 : Int32)) rfl ?_
    refine P_iadd C dX2_keeps_88 ?_
    refine P_putI C pa_X2_keeps_37 hx0 rfl lx0 dX2_keeps_89 ?_
    refine P_nm (fun σ8 eσ8 => ?_)
    have h := h σ8 eσ8
    exact P_vret C dX2_keeps_92 h
