/-! a minute, plain -/
noncomputable abbrev Stc := Nat × (Nat → Nat) × (Nat → Int) × (Nat → Int) × (Nat → Int) × Int × Int × List Cls
noncomputable abbrev Dyn := Int × (Nat → Int) × (Nat → Int) × (Nat → Int) × (Nat → Int)
noncomputable def S_r (S : Stc) : Nat := S.1
noncomputable def S_ln (S : Stc) : Nat → Nat := S.2.1
noncomputable def S_kn (S : Stc) : Nat → Int := S.2.2.1
noncomputable def S_vv (S : Stc) : Nat → Int := S.2.2.2.1
noncomputable def S_tl (S : Stc) : Nat → Int := S.2.2.2.2.1
noncomputable def S_gp (S : Stc) : Int := S.2.2.2.2.2.1
noncomputable def S_tr (S : Stc) : Int := S.2.2.2.2.2.2.1
noncomputable def S_cl (S : Stc) : List Cls := S.2.2.2.2.2.2.2
noncomputable def D_m (D : Dyn) : Int := D.1
noncomputable def D_at (D : Dyn) : Nat → Int := D.2.1
noncomputable def D_ed (D : Dyn) : Nat → Int := D.2.2.1
noncomputable def D_ti (D : Dyn) : Nat → Int := D.2.2.2.1
noncomputable def D_st (D : Dyn) : Nat → Int := D.2.2.2.2
noncomputable def upi (f : Nat → Int) (m : Nat) (x : Int) : Nat → Int := fun j => if j = m then x else f j
theorem upi_e {f : Nat → Int} {m : Nat} {x : Int} : upi f m x m = x := if_pos rfl
theorem upi_n {f : Nat → Int} {m j : Nat} {x : Int} (h : j ≠ m) : upi f m x j = f j := if_neg h
noncomputable def mnI (x y : Int) : Int := if y < x then y else x
noncomputable def SBd (n : Nat) (S : Stc) : Prop := n ≤ 6 ∧ S_r S ≤ n ∧ (∀ p, p < S_r S → S_ln S p < n) ∧ (∀ m, m < n → (0 ≤ S_kn S m ∧ S_kn S m ≤ 6) ∧ (0 ≤ S_vv S m ∧ S_vv S m ≤ 9)) ∧ (∀ k, k < 24 → 0 ≤ S_tl S k ∧ S_tl S k ≤ 9) ∧ (0 ≤ S_gp S ∧ S_gp S ≤ 99) ∧ (0 ≤ S_tr S ∧ S_tr S ≤ 99) ∧ PW (S_cl S) ∧ (S_cl S).length ≤ 10 ∧ (toksOf (S_cl S)).length ≤ 100
noncomputable def DBd (n : Nat) (K : Int) (D : Dyn) : Prop := (0 ≤ D_m D ∧ D_m D ≤ K) ∧ ∀ m, m < n → (0 ≤ D_at D m ∧ D_at D m ≤ 9999) ∧ (0 ≤ D_ed D m ∧ D_ed D m ≤ 10) ∧ (0 ≤ D_ti D m ∧ D_ti D m ≤ 99) ∧ (0 ≤ D_st D m ∧ D_st D m ≤ 1000)
noncomputable def aLt (S : Stc) (D : Dyn) (p : Nat) : Nat → Int := Lt6 (S_ln S p : Int) (S_kn S (S_ln S p)) (p : Int) (D_ed D (S_ln S p)) (D_ti D (S_ln S p) / 10) (D_m D % 10)
noncomputable def aPc (S : Stc) (D : Dyn) (p : Nat) : Int := pacS (aLt S D p) (S_cl S)
noncomputable def aPl (S : Stc) (D : Dyn) (p : Nat) : Int := pos0 (aPc S D p - D_ti D (S_ln S p) / 20)
noncomputable def aHa (S : Stc) (D : Dyn) (p : Nat) : Int := if D_ed D (S_ln S p) ≤ 5 then aPl S D p else aPl S D p + S_vv S (S_ln S p)
noncomputable def aPr (S : Stc) (D : Dyn) (p : Nat) : Bool := decide (p + 1 < S_r S ∧ D_at D (S_ln S p) - D_at D (S_ln S (p + 1)) < S_gp S + 3)
noncomputable def aRw (S : Stc) (D : Dyn) (p : Nat) : Int :=
  if S_kn S (S_ln S p) = 1 then aPc S D p
  else if S_kn S (S_ln S p) = 2 then aHa S D p
  else if S_kn S (S_ln S p) = 3 then aPl S D p / 2
  else if S_kn S (S_ln S p) = 4 then pos0 (aPc S D p - S_vv S (S_ln S p) / 3)
  else if S_kn S (S_ln S p) = 5 then (if aPr S D p = true then aHa S D p + 2 else aHa S D p)
  else if S_kn S (S_ln S p) = 6 then aPl S D p / 2 + S_tl S (4 * S_ln S p + (D_m D % 4).toNat)
  else aPl S D p
noncomputable def aSt (S : Stc) (D : Dyn) (p : Nat) : Int := if D_ed D (S_ln S p) = 0 then aRw S D p / 2 else aRw S D p
noncomputable def aFar (S : Stc) (s : Int) (D : Dyn) (p : Nat) : Int := pos0 ((if p = 0 then mnI (D_at D (S_ln S p) + s) 9999 else mnI (mnI (D_at D (S_ln S p) + s) 9999) (D_at D (S_ln S (p - 1)) - S_gp S)) - D_at D (S_ln S p))
noncomputable def aHd (S : Stc) (s : Int) (D : Dyn) (p : Nat) : Bool := if 0 < D_st D (S_ln S p) then false else decide (aFar S s D p < s)
noncomputable def aGo (S : Stc) (s : Int) (D : Dyn) (p : Nat) : Dyn :=
  if 0 < D_st D (S_ln S p) then (D_m D, D_at D, D_ed D, upi (D_ti D) (S_ln S p) (pos0 (D_ti D (S_ln S p) - 2)), upi (D_st D) (S_ln S p) (D_st D (S_ln S p) - 1))
  else if 0 < aFar S s D p then (D_m D, upi (D_at D) (S_ln S p) (D_at D (S_ln S p) + aFar S s D p), upi (D_ed D) (S_ln S p) (pos0 (D_ed D (S_ln S p) - 1)), upi (D_ti D) (S_ln S p) (mnI 99 (D_ti D (S_ln S p) + S_tr S)), D_st D)
  else (D_m D, D_at D, D_ed D, upi (D_ti D) (S_ln S p) (pos0 (D_ti D (S_ln S p) - 2)), D_st D)
noncomputable def aGos (S : Stc) (st : Nat → Int) : Nat → Nat → List Nat → Dyn → List Nat × Dyn
  | 0, _, h, D => (h, (D_m D + 1, D.2))
  | k + 1, p, h, D => aGos S st k (p + 1) (if aHd S (st p) D p = true then h ++ [S_ln S p] else h) (aGo S (st p) D p)
noncomputable def aMin (S : Stc) (D : Dyn) : List Nat × Dyn := aGos S (aSt S D) (S_r S) 0 [] D
noncomputable def hset (h : List Nat) : Int32 := h.foldl (fun x m => x ||| ((1 : Int32) <<< ((nI m) &&& 31))) 0
theorem hset_ap {h : List Nat} {m : Nat} : hset (h ++ [m]) = hset h ||| ((1 : Int32) <<< ((nI m) &&& 31)) := by
  unfold hset
  rw [List.foldl_append]; rfl
/-- what a method leaves -/
noncomputable def Rt {α : Type} (y : α × Sg) (Q : α → Sg → Prop) : Prop := Q y.1 y.2
theorem Rt_fl {α β : Type} {a : β} {f : β → α × Sg} {Q : α → Sg → Prop} (h : ∀ t, t = a → Rt (f t) Q) : Rt (fl a f) Q := h a rfl
theorem Rt_fb {α β : Type} {x : β × Sg} {f : β → Sg → α × Sg} {Q : α → Sg → Prop} {P : β → Sg → Prop} (h : Rt x P) (g : ∀ r s, P r s → Rt (f r s) Q) : Rt (fb x f) Q := g x.1 x.2 h
theorem Rt_fe {α β : Type} {x : β × Sg} {r : β} {s : Sg} {f : β → Sg → α × Sg} {Q : α → Sg → Prop} (h : x = (r, s)) (g : Rt (f r s) Q) : Rt (fb x f) Q := by subst h; exact g
theorem Rt_w {α : Type} {x : α × Sg} {P Q : α → Sg → Prop} (h : Rt x P) (g : ∀ r s, P r s → Q r s) : Rt x Q := g _ _ h
theorem Rt_p {α : Type} {r : α} {s : Sg} {Q : α → Sg → Prop} (h : Q r s) : Rt (r, s) Q := h
theorem Rt_t {α : Type} {c : Prop} {d : Decidable c} {A B : α × Sg} {Q : α → Sg → Prop} (q : c) (h : Rt A Q) : Rt (@ite _ c d A B) Q := by rw [if_pos q]; exact h
theorem Rt_f {α : Type} {c : Prop} {d : Decidable c} {A B : α × Sg} {Q : α → Sg → Prop} (q : ¬ c) (h : Rt B Q) : Rt (@ite _ c d A B) Q := by rw [if_neg q]; exact h
theorem Rt_o {α β : Type} {o : Option β} {a : β} {A : α × Sg} {f : β → α × Sg} {Q : α → Sg → Prop} (e : o = some a) (h : Rt (f a) Q) : Rt (fop o A f) Q := by subst e; exact h
theorem Rt_m {α : Type} {o : Option Nat} {a ci z : Nat} {A : α × Sg} {f : Nat → Nat → α × Sg} {Q : α → Sg → Prop} (e : o = some a) (hk : kd a = (10 + ci, z)) (h : Rt (f a ci) Q) : Rt (fm o A f) Q := by
  subst e
  show Rt (f a ((kd a).1 - 10)) Q
  rw [hk, show (10 + ci, z).1 - 10 = ci from Nat.add_sub_cancel_left _ _]
  exact h
theorem Rt_of {α : Type} {x : α × Sg} {r : α} {s : Sg} {Q : α → Sg → Prop} (h : Rt x Q) (e : x = (r, s)) : Q r s := by subst e; exact h
/-- the same for what gives a state alone -/
noncomputable def Ru (y : Sg) (Q : Sg → Prop) : Prop := Q y
theorem Ru_fl {β : Type} {a : β} {f : β → Sg} {Q : Sg → Prop} (h : ∀ t, t = a → Ru (f t) Q) : Ru (fl a f) Q := h a rfl
theorem Ru_fs {x : Sg} {f : Sg → Sg} {P Q : Sg → Prop} (h : Ru x P) (g : ∀ s, P s → Ru (f s) Q) : Ru (fl x f) Q := g x h
theorem Rt_fs {α : Type} {x : Sg} {f : Sg → α × Sg} {P : Sg → Prop} {Q : α → Sg → Prop} (h : Ru x P) (g : ∀ s, P s → Rt (f s) Q) : Rt (fl x f) Q := g x h
theorem Ru_fb {β : Type} {x : β × Sg} {f : β → Sg → Sg} {P : β → Sg → Prop} {Q : Sg → Prop} (h : Rt x P) (g : ∀ r s, P r s → Ru (f r s) Q) : Ru (fb x f) Q := g x.1 x.2 h
theorem Ru_p {s : Sg} {Q : Sg → Prop} (h : Q s) : Ru s Q := h
theorem Ru_t {c : Prop} {d : Decidable c} {A B : Sg} {Q : Sg → Prop} (q : c) (h : Ru A Q) : Ru (@ite _ c d A B) Q := by rw [if_pos q]; exact h
theorem Ru_f {c : Prop} {d : Decidable c} {A B : Sg} {Q : Sg → Prop} (q : ¬ c) (h : Ru B Q) : Ru (@ite _ c d A B) Q := by rw [if_neg q]; exact h
theorem Ru_o {β : Type} {o : Option β} {a : β} {A : Sg} {f : β → Sg} {Q : Sg → Prop} (e : o = some a) (h : Ru (f a) Q) : Ru (fop o A f) Q := by subst e; exact h
theorem Ru_w {x : Sg} {P Q : Sg → Prop} (h : Ru x P) (g : ∀ s, P s → Q s) : Ru x Q := g _ h
/-! how far numbers go -/
theorem pos0_b {x k : Int} (h : x ≤ k) (hk : 0 ≤ k) : 0 ≤ pos0 x ∧ pos0 x ≤ k := by unfold pos0; split <;> omega
theorem aPc_b {n : Nat} {S : Stc} {D : Dyn} {p : Nat} (h : SBd n S) : 0 ≤ aPc S D p ∧ aPc S D p ≤ 996 := by
  obtain ⟨-, -, -, -, -, -, -, h8, h9, -⟩ := h
  exact pacS_b h8 h9
theorem aLt_b {n : Nat} {K : Int} {S : Stc} {D : Dyn} {p : Nat} (h : SBd n S) (d : DBd n K D) (hp : p < S_r S) : ∀ f, f ≤ 5 → 0 ≤ aLt S D p f ∧ aLt S D p f ≤ 200000 := by
  obtain ⟨h1, h2, h3, h4, h5, h6, h7, h8, h9, h10⟩ := h
  obtain ⟨d1, d2⟩ := d
  have hm := h3 p hp
  obtain ⟨k1, k2⟩ := h4 _ hm
  obtain ⟨e1, e2, e3, e4⟩ := d2 _ hm
  intro f hf
  unfold aLt
  rcases (show f = 0 ∨ f = 1 ∨ f = 2 ∨ f = 3 ∨ f = 4 ∨ f = 5 by omega) with rfl | rfl | rfl | rfl | rfl | rfl
  · show 0 ≤ (S_ln S p : Int) ∧ (S_ln S p : Int) ≤ 200000; omega
  · show 0 ≤ S_kn S (S_ln S p) ∧ S_kn S (S_ln S p) ≤ 200000; omega
  · show 0 ≤ (p : Int) ∧ (p : Int) ≤ 200000; omega
  · show 0 ≤ D_ed D (S_ln S p) ∧ D_ed D (S_ln S p) ≤ 200000; omega
  · show 0 ≤ D_ti D (S_ln S p) / 10 ∧ D_ti D (S_ln S p) / 10 ≤ 200000; omega
  · show 0 ≤ D_m D % 10 ∧ D_m D % 10 ≤ 200000; omega
theorem aPl_b {n : Nat} {K : Int} {S : Stc} {D : Dyn} {p : Nat} (h : SBd n S) (d : DBd n K D) (hp : p < S_r S) : 0 ≤ aPl S D p ∧ aPl S D p ≤ 996 := by
  have a := aPc_b (D := D) (p := p) h
  obtain ⟨e1, e2, e3, e4⟩ := d.2 _ (h.2.2.1 p hp)
  exact pos0_b (by omega) (by decide)
theorem aHa_b {n : Nat} {K : Int} {S : Stc} {D : Dyn} {p : Nat} (h : SBd n S) (d : DBd n K D) (hp : p < S_r S) : 0 ≤ aHa S D p ∧ aHa S D p ≤ 1005 := by
  have a := aPl_b h d hp
  have v := (h.2.2.2.1 _ (h.2.2.1 p hp)).2
  unfold aHa
  split <;> omega
theorem aRw_b {n : Nat} {K : Int} {S : Stc} {D : Dyn} {p : Nat} (h : SBd n S) (d : DBd n K D) (hp : p < S_r S) : 0 ≤ aRw S D p ∧ aRw S D p ≤ 1007 := by
  have a := aPc_b (D := D) (p := p) h
  have b := aPl_b h d hp
  have c := aHa_b h d hp
  have hm := h.2.2.1 p hp
  have v := (h.2.2.2.1 _ hm).2
  have n6 := h.1
  have q := h.2.2.2.2.1 (4 * S_ln S p + (D_m D % 4).toNat) (by omega)
  have o : 0 ≤ pos0 (aPc S D p - S_vv S (S_ln S p) / 3) ∧ pos0 (aPc S D p - S_vv S (S_ln S p) / 3) ≤ 996 := pos0_b (by omega) (by decide)
  unfold aRw
  repeat' split
  all_goals omega
theorem aSt_b {n : Nat} {K : Int} {S : Stc} {D : Dyn} {p : Nat} (h : SBd n S) (d : DBd n K D) (hp : p < S_r S) : 0 ≤ aSt S D p ∧ aSt S D p ≤ 1007 := by
  have a := aRw_b h d hp
  unfold aSt
  split <;> omega
theorem mnI_b {x y : Int} : mnI x y ≤ x ∧ mnI x y ≤ y ∧ (mnI x y = x ∨ mnI x y = y) := by unfold mnI; split <;> omega
theorem aFar_b {n : Nat} {K s : Int} {S : Stc} {D : Dyn} {p : Nat} (h : SBd n S) (d : DBd n K D) (hp : p < S_r S) : 0 ≤ aFar S s D p ∧ aFar S s D p ≤ 9999 - D_at D (S_ln S p) := by
  obtain ⟨e1, -⟩ := d.2 _ (h.2.2.1 p hp)
  have a := @mnI_b (D_at D (S_ln S p) + s) 9999
  have b := @mnI_b (mnI (D_at D (S_ln S p) + s) 9999) (D_at D (S_ln S (p - 1)) - S_gp S)
  unfold aFar
  refine pos0_b ?_ (by omega)
  split <;> omega
theorem aGo_m {S : Stc} {s : Int} {D : Dyn} {p : Nat} : D_m (aGo S s D p) = D_m D := by
  unfold aGo
  split
  · rfl
  · split <;> rfl
theorem upi_P {f : Nat → Int} {m : Nat} {x : Int} {P : Nat → Int → Prop} (h : ∀ j, P j (f j)) (hx : P m x) : ∀ j, P j (upi f m x j) := fun j => by
  by_cases e : j = m
  · subst e; rw [upi_e]; exact hx
  · rw [upi_n e]; exact h j
theorem upi_b {f : Nat → Int} {m n : Nat} {x lo hi : Int} (h : ∀ j, j < n → lo ≤ f j ∧ f j ≤ hi) (hx : lo ≤ x ∧ x ≤ hi) : ∀ j, j < n → lo ≤ upi f m x j ∧ upi f m x j ≤ hi :=
  upi_P (P := fun j y => j < n → lo ≤ y ∧ y ≤ hi) h (fun _ => hx)
theorem DBd_i {n : Nat} {K : Int} {D : Dyn} : DBd n K D ↔ (0 ≤ D_m D ∧ D_m D ≤ K) ∧ (∀ m, m < n → 0 ≤ D_at D m ∧ D_at D m ≤ 9999) ∧ (∀ m, m < n → 0 ≤ D_ed D m ∧ D_ed D m ≤ 10) ∧ (∀ m, m < n → 0 ≤ D_ti D m ∧ D_ti D m ≤ 99) ∧ (∀ m, m < n → 0 ≤ D_st D m ∧ D_st D m ≤ 1000) :=
  ⟨fun h => ⟨h.1, fun m hm => (h.2 m hm).1, fun m hm => (h.2 m hm).2.1, fun m hm => (h.2 m hm).2.2.1, fun m hm => (h.2 m hm).2.2.2⟩, fun h => ⟨h.1, fun m hm => ⟨h.2.1 m hm, h.2.2.1 m hm, h.2.2.2.1 m hm, h.2.2.2.2 m hm⟩⟩⟩
theorem aGo_b {n : Nat} {K s : Int} {S : Stc} {D : Dyn} {p : Nat} (h : SBd n S) (d : DBd n K D) (hp : p < S_r S) : DBd n K (aGo S s D p) := by
  have hm := h.2.2.1 p hp
  obtain ⟨e1, e2, e3, e4⟩ := d.2 _ hm
  have f := aFar_b (s := s) h d hp
  have t := h.2.2.2.2.2.2.1
  obtain ⟨d1, d2, d3, d4, d5⟩ := DBd_i.mp d
  have p2 : 0 ≤ pos0 (D_ti D (S_ln S p) - 2) ∧ pos0 (D_ti D (S_ln S p) - 2) ≤ 99 := pos0_b (by omega) (by decide)
  unfold aGo
  by_cases c : 0 < D_st D (S_ln S p)
  · rw [if_pos c]
    exact DBd_i.mpr ⟨d1, d2, d3, upi_b d4 p2, upi_b d5 (by omega)⟩
  · rw [if_neg c]
    by_cases c2 : 0 < aFar S s D p
    · rw [if_pos c2]
      have m9 := @mnI_b 99 (D_ti D (S_ln S p) + S_tr S)
      exact DBd_i.mpr ⟨d1, upi_b d2 (by omega), upi_b d3 (pos0_b (by omega) (by decide)), upi_b d4 (by omega), d5⟩
    · rw [if_neg c2]
      exact DBd_i.mpr ⟨d1, d2, d3, upi_b d4 p2, d5⟩
theorem aGos_b {n : Nat} {S : Stc} {st : Nat → Int} (h : SBd n S) : ∀ (k p : Nat) (l : List Nat) (D : Dyn) (K : Int), DBd n K D → p + k ≤ S_r S → DBd n (K + 1) (aGos S st k p l D).2 := by
  intro k
  induction k with
  | zero => intro p l D K d _; exact ⟨by have := d.1; show 0 ≤ D_m D + 1 ∧ D_m D + 1 ≤ K + 1; omega, d.2⟩
  | succ k ih => intro p l D K d hk; exact ih (p + 1) _ _ K (aGo_b h d (by omega)) (by omega)
theorem aMin_b {n : Nat} {S : Stc} {D : Dyn} {K : Int} (h : SBd n S) (d : DBd n K D) : DBd n (K + 1) (aMin S D).2 := aGos_b h _ _ _ _ _ d (by omega)
