/-! the class's bounds: what each place of each cell may hold -/
noncomputable def fo (id : Nat) : Option Nat := if id < 69 then none else if id < 74 then some (id - 69) else if id < 1000 then none else if id < 2000 then some ((id - 1000) % 5) else none
noncomputable def limC (o k : Nat) : Option (Int × Int) :=
  if o = 0 then (if k = 1 then some (0, 6) else if k = 3 then some (0, 6) else if k = 9 then some (0, 20000) else none)
  else if o = 2 then some (0, 5)
  else if o = 8 then (if k = 1 then some (0, 18) else none)
  else if o = 10 then (if k = 1 then some (0, 10) else none)
  else if o = 12 then (if k = 1 then some (0, 8) else none)
  else if o = 9 then (if k % 3 = 0 then some (0, 5) else none)
  else if o = 13 then some (0, 5)
  else none
noncomputable def limF (o k : Nat) : Option (Int × Int) :=
  if o = 0 then (if k = 4 then some (0, 100) else if k = 8 then some (0, 10) else if k = 10 then some (0, 100) else if k = 11 then some (0, 100) else none)
  else if o = 1 then some (-3, 1799)
  else if o = 4 then some (0, 100)
  else none
noncomputable def limL (id k : Nat) : Option (Int × Int) :=
  if id = 0 then (if k = 3 then some (0, 1) else if k = 5 then some (0, 6) else if k = 7 then some (0, 100) else none)
  else if id < 49 then limC ((id - 1) % 16) k
  else if id < 52 then none
  else if id < 64 then (if id % 2 = 0 then (if k = 1 then some (-1, 4) else if k = 2 then some (0, 60) else none) else none)
  else if id = 64 then (if k = 1 then some (0, 1000) else none)
  else if id = 66 then some (0, 5)
  else none
noncomputable def lim (id k : Nat) : Option (Int × Int) :=
  if id < 69 then limL id k else match fo id with
  | some o => limF o k
  | none => if 2000 ≤ id then (if k = 0 then some (0, 6) else if k = 1 then some (0, 5) else if k = 2 then some (0, 9) else none) else none
/-- a mower that lives -/
noncomputable def isMw (V : Vx) (μ : Nat) : Prop := ∃ ci : Nat, isMc ci ∧ kd μ = (10 + ci, 0) ∧ μ ∈ ids V
noncomputable def XI (V : Vx) (σ : Sg) : Prop := (∀ id k lo hi, lim id k = some (lo, hi) → lo ≤ (gi σ id k).toInt ∧ (gi σ id k).toInt ≤ hi) ∧ (∀ c, isC c → (∃ f, gr σ c 10 = some f ∧ kd f = (12, 0) ∧ f ∈ ids V) ∧ ∀ k μ, gr σ (c + 1) k = some μ → isMw V μ) ∧ (∀ k f, gr σ 49 k = some f → kd f = (12, 0) ∧ f ∈ ids V) ∧ (∀ f, kd f = (12, 0) → gr σ f 9 = none ∨ gr σ f 9 = some 50)
theorem kdF_ge {f : Nat} (h : kd f = (12, 0)) : f = 69 ∨ (1000 ≤ f ∧ f < 2000 ∧ (f - 1000) % 5 = 0) := by
  rcases kdF h with h | ⟨k, hk, h⟩
  · exact Or.inl h
  · exact Or.inr ⟨by omega, by omega, by omega⟩
theorem mc_ge {ci : Nat} (h : isMc ci) : ci ≤ 10 ∧ ci ≠ 2 ∧ ci ≠ 1 ∧ ci ≠ 5 ∧ ci ≠ 9 := by rcases h with rfl | rfl | rfl | rfl | rfl | rfl | rfl <;> decide
theorem kdM_lo : ∀ f, f < 175 → ∀ ci, ci ∈ mcs → kd f ≠ (10 + ci, 0) := by decide +kernel
theorem kdM_ge {μ ci : Nat} (hm : isMc ci) (h : kd μ = (10 + ci, 0)) : 2000 ≤ μ := by
  by_cases h1 : μ < 175
  · exact absurd h (kdM_lo μ h1 ci (mcs_of hm))
  · by_cases h2 : μ < 1000
    · simp [kd, h1, h2] at h
      have := mc_ge hm; omega
    · by_cases h3 : μ < 2000
      · simp only [kd, h1, h2, h3, if_true, if_false, fkd] at h
        have := mc_ge hm
        split at h
        · exact absurd (congrArg Prod.fst h) (by show ¬ (12 : Nat) = 10 + ci; omega)
        · split at h
          · exact absurd (congrArg Prod.fst h) (by show ¬ (0 : Nat) = 10 + ci; omega)
          · exact absurd (congrArg Prod.fst h) (by show ¬ (0 : Nat) = 10 + ci; omega)
      · omega
theorem lim_C0_1 {c : Nat} (hc : isC c) : lim c 1 = some (0, 6) := by rcases hc with rfl | rfl | rfl <;> rfl
theorem lim_C0_3 {c : Nat} (hc : isC c) : lim c 3 = some (0, 6) := by rcases hc with rfl | rfl | rfl <;> rfl
theorem lim_C0_9 {c : Nat} (hc : isC c) : lim c 9 = some (0, 20000) := by rcases hc with rfl | rfl | rfl <;> rfl
theorem lim_C0_n {c : Nat} (hc : isC c) (k : Nat) (hk : k ≠ 1 ∧ k ≠ 3 ∧ k ≠ 9) : lim c k = none := by rcases hc with rfl | rfl | rfl <;> simp [lim, limL, limC, hk.1, hk.2.1, hk.2.2]
theorem lim_C2 {c : Nat} (hc : isC c) (k : Nat) : lim (c + 2) k = some (0, 5) := by rcases hc with rfl | rfl | rfl <;> rfl
theorem lim_C13 {c : Nat} (hc : isC c) (k : Nat) : lim (c + 13) k = some (0, 5) := by rcases hc with rfl | rfl | rfl <;> rfl
theorem lim_C3 {c : Nat} (hc : isC c) (k : Nat) : lim (c + 3) k = none := by rcases hc with rfl | rfl | rfl <;> rfl
theorem lim_C4 {c : Nat} (hc : isC c) (k : Nat) : lim (c + 4) k = none := by rcases hc with rfl | rfl | rfl <;> rfl
theorem lim_C5 {c : Nat} (hc : isC c) (k : Nat) : lim (c + 5) k = none := by rcases hc with rfl | rfl | rfl <;> rfl
theorem lim_C6 {c : Nat} (hc : isC c) (k : Nat) : lim (c + 6) k = none := by rcases hc with rfl | rfl | rfl <;> rfl
theorem lim_C7 {c : Nat} (hc : isC c) (k : Nat) : lim (c + 7) k = none := by rcases hc with rfl | rfl | rfl <;> rfl
theorem lim_C14 {c : Nat} (hc : isC c) (k : Nat) : lim (c + 14) k = none := by rcases hc with rfl | rfl | rfl <;> rfl
theorem lim_C15 {c : Nat} (hc : isC c) (k : Nat) : lim (c + 15) k = none := by rcases hc with rfl | rfl | rfl <;> rfl
theorem lim_C8_1 {c : Nat} (hc : isC c) : lim (c + 8) 1 = some (0, 18) := by rcases hc with rfl | rfl | rfl <;> rfl
theorem lim_C10_1 {c : Nat} (hc : isC c) : lim (c + 10) 1 = some (0, 10) := by rcases hc with rfl | rfl | rfl <;> rfl
theorem lim_C12_1 {c : Nat} (hc : isC c) : lim (c + 12) 1 = some (0, 8) := by rcases hc with rfl | rfl | rfl <;> rfl
set_option maxRecDepth 100000 in
theorem lim_F {f : Nat} (h : kd f = (12, 0)) {o k : Nat} (ho : o < 5) : lim (f + o) k = limF o k := by
  rcases kdF_ge h with rfl | ⟨h1, h2, h3⟩
  · have a1 : ¬ 69 + o < 69 := by omega
    have a2 : 69 + o < 74 := by omega
    simp [lim, fo, a1, a2]
  · have a1 : ¬ f + o < 69 := by omega
    have a2 : ¬ f + o < 74 := by omega
    have a3 : ¬ f + o < 1000 := by omega
    have a4 : f + o < 2000 := by omega
    have a5 : (f + o - 1000) % 5 = o := by omega
    simp [lim, fo, a1, a2, a3, a4, a5]
theorem lim_F0_4 {f : Nat} (h : kd f = (12, 0)) : lim f 4 = some (0, 100) := by rw [show f = f + 0 from rfl, lim_F h (by decide +kernel)]; rfl
theorem lim_F0_8 {f : Nat} (h : kd f = (12, 0)) : lim f 8 = some (0, 10) := by rw [show f = f + 0 from rfl, lim_F h (by decide +kernel)]; rfl
theorem lim_F0_10 {f : Nat} (h : kd f = (12, 0)) : lim f 10 = some (0, 100) := by rw [show f = f + 0 from rfl, lim_F h (by decide +kernel)]; rfl
theorem lim_F0_11 {f : Nat} (h : kd f = (12, 0)) : lim f 11 = some (0, 100) := by rw [show f = f + 0 from rfl, lim_F h (by decide +kernel)]; rfl
theorem lim_F0_n {f : Nat} (h : kd f = (12, 0)) (k : Nat) (hk : k ≠ 4 ∧ k ≠ 8 ∧ k ≠ 10 ∧ k ≠ 11) : lim f k = none := by rw [show f = f + 0 from rfl, lim_F h (by decide +kernel)]; simp [limF, hk.1, hk.2.1, hk.2.2.1, hk.2.2.2]
theorem lim_F1 {f : Nat} (h : kd f = (12, 0)) (k : Nat) : lim (f + 1) k = some (-3, 1799) := by rw [lim_F h (by decide +kernel)]; rfl
theorem lim_F4 {f : Nat} (h : kd f = (12, 0)) (k : Nat) : lim (f + 4) k = some (0, 100) := by rw [lim_F h (by decide +kernel)]; rfl
theorem lim_F2 {f : Nat} (h : kd f = (12, 0)) (k : Nat) : lim (f + 2) k = none := by rw [lim_F h (by decide +kernel)]; rfl
theorem lim_F3 {f : Nat} (h : kd f = (12, 0)) (k : Nat) : lim (f + 3) k = none := by rw [lim_F h (by decide +kernel)]; rfl
theorem lim_M0_0 {μ ci : Nat} (hm : isMc ci) (h : kd μ = (10 + ci, 0)) : lim μ 0 = some (0, 6) := by
  have h0 := kdM_ge hm h
  have a1 : ¬ μ < 69 := by omega
  have a2 : ¬ μ < 74 := by omega
  have a3 : ¬ μ < 1000 := by omega
  have a4 : ¬ μ < 2000 := by omega
  simp [lim, fo, a1, a2, a3, a4]
theorem lim_M0_1 {μ ci : Nat} (hm : isMc ci) (h : kd μ = (10 + ci, 0)) : lim μ 1 = some (0, 5) := by
  have h0 := kdM_ge hm h
  have a1 : ¬ μ < 69 := by omega
  have a2 : ¬ μ < 74 := by omega
  have a3 : ¬ μ < 1000 := by omega
  have a4 : ¬ μ < 2000 := by omega
  simp [lim, fo, a1, a2, a3, a4]
theorem lim_M0_2 {μ ci : Nat} (hm : isMc ci) (h : kd μ = (10 + ci, 0)) : lim μ 2 = some (0, 9) := by
  have h0 := kdM_ge hm h
  have a1 : ¬ μ < 69 := by omega
  have a2 : ¬ μ < 74 := by omega
  have a3 : ¬ μ < 1000 := by omega
  have a4 : ¬ μ < 2000 := by omega
  simp [lim, fo, a1, a2, a3, a4]
theorem lim_T0_1 {t : Nat} (ht : isT t) : lim t 1 = some (-1, 4) := by rcases ht with rfl | rfl | rfl | rfl | rfl | rfl <;> rfl
theorem lim_T0_2 {t : Nat} (ht : isT t) : lim t 2 = some (0, 60) := by rcases ht with rfl | rfl | rfl | rfl | rfl | rfl <;> rfl
/-- the most of a row of numbers -/
noncomputable def capI (n : Nat) : Int := if n = 64 then 1000 else if n % 16 = 9 then 18 else if n % 16 = 11 then 10 else 8
noncomputable def seenN (n : Nat) : Prop := n = 9 ∨ n = 25 ∨ n = 41
theorem lim_N {n : Nat} (hn : isN n) : lim n 1 = some (0, capI n) := by rcases hn with rfl | rfl | rfl | rfl | rfl | rfl | rfl | rfl | rfl | rfl <;> rfl
theorem lim_Nr {n : Nat} (hn : isN n) (k : Nat) {lo hi : Int} (h : lim (n + 1) k = some (lo, hi)) : lo = 0 ∧ hi = 5 ∧ (seenN n ∧ k % 3 = 0 ∨ n % 16 = 13) := by
  unfold seenN
  rcases hn with rfl | rfl | rfl | rfl | rfl | rfl | rfl | rfl | rfl | rfl <;> simp [lim, limL, limC, fo] at h ⊢ <;> omega
theorem nl_le {n : Nat} (hn : isN n) : (nl n : Int) ≤ capI n ∧ capI n ≤ 1000 ∧ 8 ≤ (nl n : Int) ∧ (nl n : Int) ≤ 20 := by rcases hn with rfl | rfl | rfl | rfl | rfl | rfl | rfl | rfl | rfl | rfl <;> decide
theorem XI_c1 {V : Vx} {σ : Sg} (x : XI V σ) {id k : Nat} {lo hi : Int} (h : lim id k = some (lo, hi)) : lo ≤ (gi σ id k).toInt ∧ (gi σ id k).toInt ≤ hi := x.1 id k lo hi h
theorem XIs {V : Vx} {σ : Sg} {a k : Nat} {v : Int32} (x : XI V σ) (h : ∀ lo hi, lim a k = some (lo, hi) → lo ≤ v.toInt ∧ v.toInt ≤ hi) : XI V (si σ a k v) := by
  refine ⟨fun id j lo hi hl => ?_, x.2⟩
  by_cases e : id = a ∧ j = k
  · obtain ⟨rfl, rfl⟩ := e
    rw [gi_si_eq]
    exact h lo hi hl
  · rw [gi_si_ne (by by_cases hb : id = a
                     · exact Or.inr (fun hj => e ⟨hb, hj⟩)
                     · exact Or.inl hb)]
    exact x.1 id j lo hi hl
theorem XIs_n {V : Vx} {σ : Sg} {a k : Nat} {v : Int32} (x : XI V σ) (h : lim a k = none) : XI V (si σ a k v) := XIs x (fun lo hi q => by rw [h] at q; cases q)
theorem XIs_b {V : Vx} {σ : Sg} {a k : Nat} {v : Int32} {lo hi : Int} (x : XI V σ) (h : lim a k = some (lo, hi)) (h1 : lo ≤ v.toInt) (h2 : v.toInt ≤ hi) : XI V (si σ a k v) := XIs x (fun lo' hi' q => by rw [h] at q; cases q; exact ⟨h1, h2⟩)
theorem XIs_Nr {V : Vx} {σ : Sg} {n k : Nat} {v : Int32} (x : XI V σ) (hn : isN n) (h : seenN n ∧ k % 3 = 0 ∨ n % 16 = 13 → 0 ≤ v.toInt ∧ v.toInt ≤ 5) : XI V (si σ (n + 1) k v) := XIs x (fun lo hi q => by
  obtain ⟨rfl, rfl, z⟩ := lim_Nr hn k q
  exact h z)
theorem XIs_l {V : Vx} {σ : Sg} {a k : Nat} {v : Int64} (x : XI V σ) : XI V (sl σ a k v) := x
theorem XIs_la {V : Vx} {σ : Sg} {a : Nat} {v : Nat → Int64} (x : XI V σ) : XI V (sla σ a v) := x
theorem gr_sr {σ : Sg} {a k b j : Nat} {v : Option Nat} : gr (sr σ a k v) b j = if b = a ∧ j = k then v else gr σ b j := by
  by_cases e : b = a
  · subst e
    by_cases e2 : j = k
    · subst e2; simp [gr, sr, sra, va_up]
    · simp [gr, sr, sra, va_up, e2]
  · simp [gr, sr, sra, va_up, e]
theorem XIs_r {V : Vx} {σ : Sg} {a k : Nat} {v : Option Nat} (x : XI V σ) (h1 : ∀ c, isC c → a = c → k = 10 → ∃ f, v = some f ∧ kd f = (12, 0) ∧ f ∈ ids V) (h2 : ∀ c, isC c → a = c + 1 → ∀ μ, v = some μ → isMw V μ) (h3 : a = 49 → ∀ f, v = some f → kd f = (12, 0) ∧ f ∈ ids V) (h4 : kd a = (12, 0) → k = 9 → v = none ∨ v = some 50) : XI V (sr σ a k v) := by
  refine ⟨x.1, fun c hc => ⟨?_, fun j μ q => ?_⟩, fun j f q => ?_, fun f hf => ?_⟩
  · rw [gr_sr]
    by_cases e : c = a ∧ 10 = k
    · rw [if_pos e]; exact h1 c hc e.1.symm e.2.symm
    · rw [if_neg e]; exact (x.2.1 c hc).1
  · rw [gr_sr] at q
    by_cases e : c + 1 = a ∧ j = k
    · rw [if_pos e] at q; exact h2 c hc e.1.symm μ q
    · rw [if_neg e] at q; exact (x.2.1 c hc).2 j μ q
  · rw [gr_sr] at q
    by_cases e : 49 = a ∧ j = k
    · rw [if_pos e] at q; exact h3 e.1.symm f q
    · rw [if_neg e] at q; exact x.2.2.1 j f q
  · rw [gr_sr]
    by_cases e : f = a ∧ 9 = k
    · rw [if_pos e]; exact h4 (e.1 ▸ hf) e.2.symm
    · rw [if_neg e]; exact x.2.2.2 f hf
theorem XIs_sia {V : Vx} {σ : Sg} {a : Nat} {g : Nat → Int32} (x : XI V σ) (h : ∀ k lo hi, lim a k = some (lo, hi) → lo ≤ (g k).toInt ∧ (g k).toInt ≤ hi) : XI V (sia σ a g) := by
  refine ⟨fun id j lo hi hl => ?_, x.2⟩
  show lo ≤ (va_up σ.1 a g id j).toInt ∧ (va_up σ.1 a g id j).toInt ≤ hi
  by_cases e : id = a
  · subst e; rw [va_up_self]; exact h j lo hi hl
  · rw [va_up_ne _ _ e]; exact x.1 id j lo hi hl
/-! what is left alone -/
noncomputable def FX (S : Nat → Prop) (F : Nat → Nat → Prop) (σ σ' : Sg) : Prop := (∀ id k, ¬ S id → ¬ F id k → gi σ' id k = gi σ id k) ∧ (∀ id k, ¬ S id → gl σ' id k = gl σ id k) ∧ (∀ id k, ¬ S id → ¬ F id k → gr σ' id k = gr σ id k)
theorem FX_rf {S : Nat → Prop} {F : Nat → Nat → Prop} {σ : Sg} : FX S F σ σ := ⟨fun _ _ _ _ => rfl, fun _ _ _ => rfl, fun _ _ _ _ => rfl⟩
theorem FX_i {S : Nat → Prop} {F : Nat → Nat → Prop} {σ σ' : Sg} (f : FX S F σ σ') {id k : Nat} (h1 : ¬ S id) (h2 : ¬ F id k) : gi σ' id k = gi σ id k := f.1 id k h1 h2
theorem FX_r {S : Nat → Prop} {F : Nat → Nat → Prop} {σ σ' : Sg} (f : FX S F σ σ') {id k : Nat} (h1 : ¬ S id) (h2 : ¬ F id k) : gr σ' id k = gr σ id k := f.2.2 id k h1 h2
theorem FX_nil {σ σ' : Sg} (f : FX (fun _ => False) (fun _ _ => False) σ σ') : σ = σ' := by
  obtain ⟨h1, h2, h3⟩ := f
  refine Prod.ext (funext fun a => funext fun k => (h1 a k (fun z => z) (fun z => z)).symm) (Prod.ext (funext fun a => funext fun k => (h2 a k (fun z => z)).symm) (funext fun a => funext fun k => (h3 a k (fun z => z) (fun z => z)).symm))
theorem FX_si {S : Nat → Prop} {F : Nat → Nat → Prop} {σ σ1 : Sg} {a k : Nat} {v : Int32} (f : FX S F σ σ1) (h : S a ∨ F a k) : FX S F σ (si σ1 a k v) := by
  refine ⟨fun id j h1 h2 => ?_, f.2.1, f.2.2⟩
  rw [← f.1 id j h1 h2]
  refine gi_si_ne ?_
  by_cases e : id = a
  · subst e
    refine Or.inr fun e2 => ?_
    subst e2
    exact h.elim h1 h2
  · exact Or.inl e
theorem FX_sia {S : Nat → Prop} {F : Nat → Nat → Prop} {σ σ1 : Sg} {a : Nat} {g : Nat → Int32} (f : FX S F σ σ1) (h : S a) : FX S F σ (sia σ1 a g) := by
  refine ⟨fun id j h1 h2 => ?_, f.2.1, f.2.2⟩
  rw [← f.1 id j h1 h2]
  have e : id ≠ a := fun e => h1 (e ▸ h)
  show va_up σ1.1 a g id j = σ1.1 id j
  rw [va_up_ne _ _ e]
theorem FX_sl {S : Nat → Prop} {F : Nat → Nat → Prop} {σ σ1 : Sg} {a k : Nat} {v : Int64} (f : FX S F σ σ1) (h : S a) : FX S F σ (sl σ1 a k v) := by
  refine ⟨f.1, fun id j h1 => ?_, f.2.2⟩
  rw [← f.2.1 id j h1]
  have e : id ≠ a := fun e => h1 (e ▸ h)
  show va_up σ1.2.1 a _ id j = σ1.2.1 id j
  rw [va_up_ne _ _ e]
theorem FX_sla {S : Nat → Prop} {F : Nat → Nat → Prop} {σ σ1 : Sg} {a : Nat} {g : Nat → Int64} (f : FX S F σ σ1) (h : S a) : FX S F σ (sla σ1 a g) := by
  refine ⟨f.1, fun id j h1 => ?_, f.2.2⟩
  rw [← f.2.1 id j h1]
  have e : id ≠ a := fun e => h1 (e ▸ h)
  show va_up σ1.2.1 a _ id j = σ1.2.1 id j
  rw [va_up_ne _ _ e]
theorem FX_sr {S : Nat → Prop} {F : Nat → Nat → Prop} {σ σ1 : Sg} {a k : Nat} {v : Option Nat} (f : FX S F σ σ1) (h : S a ∨ F a k) : FX S F σ (sr σ1 a k v) := by
  refine ⟨f.1, f.2.1, fun id j h1 h2 => ?_⟩
  rw [← f.2.2 id j h1 h2, gr_sr, if_neg]
  rintro ⟨rfl, rfl⟩
  exact h.elim h1 h2
theorem FX_tr {S S2 : Nat → Prop} {F F2 : Nat → Nat → Prop} {σ σ1 σ2 : Sg} (f : FX S F σ σ1) (g : FX S2 F2 σ1 σ2) (hS : ∀ x, S2 x → S x) (hF : ∀ x k, F2 x k → S x ∨ F x k) : FX S F σ σ2 := by
  refine ⟨fun id k h1 h2 => ?_, fun id k h1 => ?_, fun id k h1 h2 => ?_⟩
  · exact (g.1 id k (fun q => h1 (hS id q)) (fun q => (hF id k q).elim h1 h2)).trans (f.1 id k h1 h2)
  · exact (g.2.1 id k (fun q => h1 (hS id q))).trans (f.2.1 id k h1)
  · exact (g.2.2 id k (fun q => h1 (hS id q)) (fun q => (hF id k q).elim h1 h2)).trans (f.2.2 id k h1 h2)
/-- a row of mowers that may go: who stands in it is one of them, and they are there -/
noncomputable def NN (σ : Sg) (c : Nat) : Prop := (∀ p : Nat, (p : Int) < (gi σ c 3).toInt → (gi σ (c + 2) p).toInt < (gi σ c 1).toInt) ∧ (∀ m : Nat, (m : Int) < (gi σ c 1).toInt → gr σ (c + 1) m ≠ none)
theorem NN_fx {S : Nat → Prop} {F : Nat → Nat → Prop} {σ σ' : Sg} {c : Nat} (n : NN σ c) (f : FX S F σ σ') (h0 : ¬ S c) (h1 : ¬ S (c + 1)) (h2 : ¬ S (c + 2)) (g1 : ¬ F c 1) (g3 : ¬ F c 3) (g4 : ∀ k, ¬ F (c + 1) k) (g5 : ∀ k, ¬ F (c + 2) k) : NN σ' c := by
  unfold NN
  rw [f.1 c 3 h0 g3, f.1 c 1 h0 g1]
  refine ⟨fun p hp => ?_, fun m hm => ?_⟩
  · rw [f.1 (c + 2) p h2 (g5 p)]; exact n.1 p hp
  · rw [f.2.2 (c + 1) m h1 (g4 m)]; exact n.2 m hm
theorem NN_si {σ : Sg} {c a k : Nat} {v : Int32} (n : NN σ c) (h : a ≠ c + 2) (hk : a = c → k ≠ 1 ∧ k ≠ 3) : NN (si σ a k v) c := by
  have e1 : gi (si σ a k v) c 3 = gi σ c 3 := gi_si_ne (by by_cases e : c = a
                                                           · exact Or.inr fun q => (hk e.symm).2 q.symm
                                                           · exact Or.inl e)
  have e2 : gi (si σ a k v) c 1 = gi σ c 1 := gi_si_ne (by by_cases e : c = a
                                                           · exact Or.inr fun q => (hk e.symm).1 q.symm
                                                           · exact Or.inl e)
  unfold NN
  rw [e1, e2]
  refine ⟨fun p hp => ?_, n.2⟩
  rw [gi_si_ne (Or.inl (fun e => h e.symm))]
  exact n.1 p hp
theorem NN_line {σ : Sg} {c k : Nat} {v : Int32} (n : NN σ c) (h : v.toInt < (gi σ c 1).toInt) : NN (si σ (c + 2) k v) c := by
  have e1 : gi (si σ (c + 2) k v) c 3 = gi σ c 3 := gi_si_ne (Or.inl (by omega))
  have e2 : gi (si σ (c + 2) k v) c 1 = gi σ c 1 := gi_si_ne (Or.inl (by omega))
  unfold NN
  rw [e1, e2]
  refine ⟨fun p hp => ?_, n.2⟩
  by_cases e : p = k
  · subst e; rw [gi_si_eq]; exact h
  · rw [gi_si_ne (Or.inr e)]; exact n.1 p hp
theorem NN_one {σ : Sg} {c : Nat} {v : Int32} (n : NN σ c) (hl : (gi σ (c + 2) 0).toInt < (gi σ c 1).toInt) (hv : v.toInt = 1) : NN (si σ c 3 v) c := by
  have e2 : gi (si σ c 3 v) c 1 = gi σ c 1 := gi_si_ne (Or.inr (by decide +kernel))
  unfold NN
  rw [gi_si_eq, e2, hv]
  refine ⟨fun p hp => ?_, n.2⟩
  have hp0 : p = 0 := by omega
  subst hp0
  rw [gi_si_ne (Or.inl (by omega))]
  exact hl
/-- the orders that are tried: numbers of those who are there -/
noncomputable def TRp (σ : Sg) (n m : Int) : Prop := ∀ i : Nat, (i : Int) < n → (gi σ 66 i).toInt < m
noncomputable abbrev TR (σ : Sg) (n : Int) : Prop := TRp σ n n
theorem TR_fx {S : Nat → Prop} {F : Nat → Nat → Prop} {σ σ' : Sg} {n : Int} (h : TR σ n) (f : FX S F σ σ') (h1 : ¬ S 66) (h2 : ∀ k, ¬ F 66 k) : TR σ' n := fun i hi => by rw [f.1 66 i h1 (h2 i)]; exact h i hi
theorem TR_si {σ : Sg} {n : Int} {k : Nat} {v : Int32} (h : TR σ n) (hv : v.toInt < n) : TR (si σ 66 k v) n := fun i hi => by
  by_cases e : i = k
  · subst e; rw [gi_si_eq]; exact hv
  · rw [gi_si_ne (Or.inr e)]; exact h i hi
theorem TR_ne {σ : Sg} {n : Int} {a k : Nat} {v : Int32} (h : TR σ n) (ha : a ≠ 66) : TR (si σ a k v) n := fun i hi => by
  rw [gi_si_ne (Or.inl (fun e => ha e.symm))]; exact h i hi
theorem TR_sia {σ : Sg} {n : Int} {a : Nat} {g : Nat → Int32} (h : TR σ n) (ha : a ≠ 66) : TR (sia σ a g) n := fun i hi => by
  show (va_up σ.1 a g 66 i).toInt < n
  rw [va_up_ne _ _ (fun e => ha e.symm)]; exact h i hi
theorem TRp_step {σ σ' : Sg} {x v : Int32} {n m : Int} (e : σ' = si σ 66 x.toNatClampNeg v) (h : TRp σ x.toInt m) (h0 : 0 ≤ x.toInt) (hv : v.toInt < m) (hn : n = x.toInt + 1) : TRp σ' n m := fun i hi => by
  have ec := cl_eq h0
  rw [e]
  by_cases e2 : i = x.toNatClampNeg
  · rw [e2, gi_si_eq]; exact hv
  · rw [gi_si_ne (Or.inr e2)]; exact h i (by omega)
theorem gr_si {σ : Sg} {a k b j : Nat} {v : Int32} : gr (si σ a k v) b j = gr σ b j := rfl
theorem gi_sr {σ : Sg} {a k b j : Nat} {v : Option Nat} : gi (sr σ a k v) b j = gi σ b j := rfl
theorem gi_sia {σ : Sg} {a b j : Nat} {g : Nat → Int32} : gi (sia σ a g) b j = if b = a then g j else gi σ b j := by
  show va_up σ.1 a g b j = _
  by_cases e : b = a
  · subst e; rw [va_up_self, if_pos rfl]
  · rw [va_up_ne _ _ e, if_neg e]; rfl
theorem cpy_in {α : Type} (f g : Nat → α) {n k : Nat} (h : k < n) : va_cpy f g 0 0 n k = f k := by
  unfold va_cpy
  rw [if_pos ⟨Nat.zero_le _, by omega⟩]
  congr 1
  omega
/-- a course's rows, as far as the k-th, are another's -/
noncomputable def CQ (σ σ' : Sg) (c a i : Nat) : Prop := (∀ k, k < i → gr σ' (c + 1) k = gr σ (a + 1) k) ∧ (∀ j, 2 ≤ j → j ≤ 6 → ∀ k, k < i → gi σ' (c + j) k = gi σ (a + j) k)
noncomputable def CPY (σ σ' : Sg) (c a : Nat) : Prop := (gi σ' c 1 = gi σ a 1 ∧ gi σ' c 3 = gi σ a 3 ∧ gi σ' c 9 = gi σ a 9 ∧ gi σ' c 11 = gi σ a 11 ∧ gr σ' c 10 = gr σ a 10) ∧ CQ σ σ' c a 6 ∧ ∀ k, k < 24 → gi σ' (c + 7) k = gi σ (a + 7) k
theorem XI_mow {V : Vx} {σ : Sg} (x : XI V σ) {c : Nat} (hc : isC c) {k : Nat} (h : gr σ (c + 1) k ≠ none) : ∃ μ ci : Nat, gr σ (c + 1) k = some μ ∧ isMc ci ∧ kd μ = (10 + ci, 0) ∧ μ ∈ ids V := by
  cases hr : gr σ (c + 1) k with
  | none => exact absurd hr h
  | some μ =>
    obtain ⟨ci, h1, h2, h3⟩ := (x.2.1 c hc).2 k μ hr
    exact ⟨μ, ci, rfl, h1, h2, h3⟩
theorem ofNat_nl {n : Nat} (hn : isN n) : (Int32.ofNat (nl n)).toInt = (nl n : Int) := by rcases hn with rfl | rfl | rfl | rfl | rfl | rfl | rfl | rfl | rfl | rfl <;> decide +kernel
theorem nI_slen {i : Nat} (hi : i < 8) : (nI (slen i)).toInt = (slen i : Int) ∧ 3 ≤ (slen i : Int) ∧ (slen i : Int) ≤ 6 := by
  have h : ∀ i, i < 8 → (nI (slen i)).toInt = (slen i : Int) ∧ 3 ≤ (slen i : Int) ∧ (slen i : Int) ≤ 6 := by decide +kernel
  exact h i hi
theorem sby_nar : ∀ i, i < 8 → ∀ k, k < slen i → narrow .char (.int ((((sby i k) &&& 255).toUInt32 % 65536).toInt32)) = .int ((((sby i k) &&& 255).toUInt32 % 65536).toInt32) ∧ (((sby i k) &&& 255).toUInt32 % 65536).toInt32 = sby i k ∧ narrow .char (.int (sby i k)) = .int (sby i k) ∧ 32 ≤ (sby i k).toInt ∧ (sby i k).toInt ≤ 127 := by decide +kernel
/-- the sign that stands next -/
noncomputable def sgn (σ : Sg) (f : Nat) : Int32 := if gi σ f 10 ≤ gi σ f 11 then -1 else gi σ 50 (gi σ f 11).toNatClampNeg
theorem sgn_lt {σ : Sg} {f : Nat} (h : 0 ≤ (sgn σ f).toInt) : (gi σ f 11).toInt < (gi σ f 10).toInt := by
  unfold sgn at h
  by_cases q : gi σ f 10 ≤ gi σ f 11
  · rw [if_pos q] at h; exact absurd h (by decide +kernel)
  · exact Int.not_le.mp fun z => q (Int32.le_iff_toInt_le.mpr z)
theorem sgn_a {σ : Sg} {f : Nat} (h : gi σ f 10 ≤ gi σ f 11) : sgn σ f = -1 := if_pos h
theorem sgn_b {σ : Sg} {f : Nat} (h : ¬ gi σ f 10 ≤ gi σ f 11) : sgn σ f = gi σ 50 (gi σ f 11).toNatClampNeg := if_neg h
/-- what may come to a row of numbers -/
noncomputable def okNum (n : Nat) (size v : Int32) : Prop := (seenN n ∧ size.toInt % 3 = 0 ∨ n % 16 = 13) → 0 ≤ v.toInt ∧ v.toInt ≤ 5
theorem okNum_64 {s v : Int32} : okNum 64 s v := fun h => by rcases h with ⟨h, -⟩ | h <;> simp [seenN] at h
theorem okNum_11 {s v : Int32} : okNum 11 s v := fun h => by rcases h with ⟨h, -⟩ | h <;> simp [seenN] at h
theorem okNum_b {n : Nat} {s v : Int32} (h1 : 0 ≤ v.toInt) (h2 : v.toInt ≤ 5) : okNum n s v := fun _ => ⟨h1, h2⟩
theorem okNum_9 {s v : Int32} (h : ¬ s.toInt % 3 = 0) : okNum 9 s v := fun q => by
  rcases q with ⟨-, q⟩ | q
  · exact absurd q h
  · exact absurd q (by decide +kernel)
theorem okNum_in {n k : Nat} {s v : Int32} (h : okNum n s v) (hs : (k : Int) = s.toInt) : seenN n ∧ k % 3 = 0 ∨ n % 16 = 13 → 0 ≤ v.toInt ∧ v.toInt ≤ 5 := fun q => h (q.elim (fun q => Or.inl ⟨q.1, by omega⟩) Or.inr)
theorem jmax_f (x y : Int32) : (jmax x y).toInt = if x.toInt < y.toInt then y.toInt else x.toInt := by
  unfold jmax
  by_cases h : x < y
  · rw [if_pos h, if_pos (Int32.lt_iff_toInt_lt.mp h)]
  · rw [if_neg h, if_neg (fun q => h (Int32.lt_iff_toInt_lt.mpr q))]
theorem jmin_f (x y : Int32) : (jmin x y).toInt = if y.toInt < x.toInt then y.toInt else x.toInt := by
  unfold jmin
  by_cases h : y < x
  · rw [if_pos h, if_pos (Int32.lt_iff_toInt_lt.mp h)]
  · rw [if_neg h, if_neg (fun q => h (Int32.lt_iff_toInt_lt.mpr q))]
theorem jmax_b (x y : Int32) : x.toInt ≤ (jmax x y).toInt ∧ y.toInt ≤ (jmax x y).toInt ∧ ((jmax x y).toInt = x.toInt ∨ (jmax x y).toInt = y.toInt) := by
  rw [jmax_f]; split <;> omega
theorem jmin_b (x y : Int32) : (jmin x y).toInt ≤ x.toInt ∧ (jmin x y).toInt ≤ y.toInt ∧ ((jmin x y).toInt = x.toInt ∨ (jmin x y).toInt = y.toInt) := by
  rw [jmin_f]; split <;> omega
set_option maxRecDepth 100000 in
set_option maxHeartbeats 4000000 in
theorem k_X5_isFull {l : Launch} {V : Vx} {c0 : Nat} {σ0 : Sg} {Qk : Int32 → Sg → Prop} (hc0 : isN c0) (m0 : XI V σ0) (h9ret : ∀ (r : Int32) (σ' : Sg), XI V σ' → FX (fun id => False) (fun _ _ => False) σ0 σ' → (0 ≤ r.toInt) → (r.toInt ≤ 1) → ((r.toInt = 1 ∧ (nl c0 : Int) ≤ (gi σ0 c0 1).toInt) ∨ (r.toInt = 0 ∧ (gi σ0 c0 1).toInt < (nl c0 : Int))) → Qk r σ') : K_X5_isFull l V c0 σ0 Qk := by
  refine e_X5_isFull (fun M hl hV hN C => ?_)
  subst hl
  subst hV
  have oc0 : c0 = 9 ∨ c0 = 11 ∨ c0 = 13 ∨ c0 = 25 ∨ c0 = 27 ∨ c0 = 29 ∨ c0 = 41 ∨ c0 = 43 ∨ c0 = 45 ∨ c0 = 64 := hc0
  have f0 : FX (fun id => False) (fun _ _ => False) σ0 σ0 := FX_rf
  have t_1 := XI_c1 m0 (lim_N hc0)
  have t_2 := nl_le hc0
  refine s_X5_isFull_0 C hN hc0 ?_
  refine ⟨?_, ?_⟩
  · intro q_3
    have t_4 := ofNat_nl hc0
    have t_5 := nl_le hc0
    have b_6 : (gi σ0 c0 1).toInt < (Int32.ofNat (nl c0)).toInt := Int32.lt_iff_toInt_lt.mp q_3
    have z_7 : (0 : Int32).toInt = 0 := rfl
    exact h9ret (0 : Int32) σ0 m0 f0 (by omega) (by omega) (by first | with_reducible assumption | with_reducible rfl | omega | assumption | rfl)
  · intro q_3
    have t_8 := ofNat_nl hc0
    have t_9 := nl_le hc0
    have b_10 : ¬ (gi σ0 c0 1).toInt < (Int32.ofNat (nl c0)).toInt := fun h9 => q_3 (Int32.lt_iff_toInt_lt.mpr h9)
    have z_11 : (1 : Int32).toInt = 1 := rfl
    exact h9ret (1 : Int32) σ0 m0 f0 (by omega) (by omega) (by first | with_reducible assumption | with_reducible rfl | omega | assumption | rfl)
set_option maxRecDepth 100000 in
set_option maxHeartbeats 4000000 in
theorem k_X5_comes {l : Launch} {V : Vx} {c0 : Nat} {a1 : Int32} {σ0 : Sg} {Qk : Sg → Prop} (hc0 : isN c0) (m0 : XI V σ0) (pre0 : (gi σ0 c0 1).toInt + 1 ≤ capI c0) (pre1 : okNum c0 (gi σ0 c0 1) a1) (h9ret : ∀ (σ' : Sg), XI V σ' → FX (fun id => id = c0 + 1) (fun id k => (id = c0 ∧ k = 1)) σ0 σ' → ((gi σ' c0 1).toInt = (gi σ0 c0 1).toInt + 1) → Qk σ') : K_X5_comes l V c0 a1 σ0 Qk := by
  refine e_X5_comes (fun M hl hV hN C => ?_)
  subst hl
  subst hV
  have oc0 : c0 = 9 ∨ c0 = 11 ∨ c0 = 13 ∨ c0 = 25 ∨ c0 = 27 ∨ c0 = 29 ∨ c0 = 41 ∨ c0 = 43 ∨ c0 = 45 ∨ c0 = 64 := hc0
  have f0 : FX (fun id => id = c0 + 1) (fun id k => (id = c0 ∧ k = 1)) σ0 σ0 := FX_rf
  have t_1 := XI_c1 m0 (lim_N hc0)
  have t_2 := nl_le hc0
  have hs := cl_eq (x := gi σ0 c0 1) (by omega)
  refine s_X5_comes_0 C hN hc0 ?_
  refine ⟨?_, ?_⟩
  · intro q_3
    have t_4 := ofNat_nl hc0
    have t_5 := nl_le hc0
    have b_6 : (Int32.ofNat (nl c0)).toInt ≤ (gi σ0 c0 1).toInt := Int32.le_iff_toInt_le.mp q_3
    intro σ2 eσ2
    have t_7 : ((gi σ0 c0 1) + (1 : Int32)).toInt = (gi σ0 c0 1).toInt + 1 := i_add (x := (gi σ0 c0 1)) (y := (1 : Int32)) (by show (_ : Int) ≤ (gi σ0 c0 1).toInt + 1; omega) (by show (gi σ0 c0 1).toInt + 1 ≤ (_ : Int); omega)
    have mσ2 : XI (mV M) σ2 := by rw [eσ2]; exact XIs_b m0 (lim_N hc0) (by omega) (by omega)
    have fσ2 : FX (fun id => id = c0 + 1) (fun id k => (id = c0 ∧ k = 1)) σ0 σ2 := by rw [eσ2]; exact FX_si f0 (Or.inr (by show (c0 = c0 ∧ 1 = 1); omega))
    have k_8 : (gi σ2 c0 1).toInt = ((gi σ0 c0 1) + (1 : Int32)).toInt := by rw [eσ2]; exact congrArg Int32.toInt gi_si_eq
    exact h9ret σ2 mσ2 fσ2 (by first | with_reducible assumption | with_reducible rfl | omega | assumption | rfl)
  · intro q_3
    have t_9 := ofNat_nl hc0
    have t_10 := nl_le hc0
    have b_11 : ¬ (Int32.ofNat (nl c0)).toInt ≤ (gi σ0 c0 1).toInt := fun h9 => q_3 (Int32.le_iff_toInt_le.mpr h9)
    have hv_12 : vp_in (gi σ0 c0 1) (nl c0) := vp_in_iff.mpr ⟨by omega, by omega⟩
    refine ⟨hv_12, ?_⟩
    intro σ4 eσ4
    have mσ4 : XI (mV M) σ4 := by rw [eσ4]; exact XIs_Nr m0 hc0 (okNum_in pre1 hs)
    have fσ4 : FX (fun id => id = c0 + 1) (fun id k => (id = c0 ∧ k = 1)) σ0 σ4 := by rw [eσ4]; exact FX_si f0 (Or.inl (by show c0 + 1 = c0 + 1; omega))
    have k_13 : (gi σ4 c0 1).toInt = (gi σ0 c0 1).toInt := by rw [eσ4]; exact congrArg Int32.toInt (gi_si_ne (Or.inl (by omega)))
    intro σ5 eσ5
    have t_14 := XI_c1 mσ4 (lim_N hc0)
    have t_15 := nl_le hc0
    have t_16 : ((gi σ4 c0 1) + (1 : Int32)).toInt = (gi σ4 c0 1).toInt + 1 := i_add (x := (gi σ4 c0 1)) (y := (1 : Int32)) (by show (_ : Int) ≤ (gi σ4 c0 1).toInt + 1; omega) (by show (gi σ4 c0 1).toInt + 1 ≤ (_ : Int); omega)
    have mσ5 : XI (mV M) σ5 := by rw [eσ5]; exact XIs_b mσ4 (lim_N hc0) (by omega) (by omega)
    have fσ5 : FX (fun id => id = c0 + 1) (fun id k => (id = c0 ∧ k = 1)) σ0 σ5 := by rw [eσ5]; exact FX_si fσ4 (Or.inr (by show (c0 = c0 ∧ 1 = 1); omega))
    have k_17 : (gi σ5 c0 1).toInt = ((gi σ4 c0 1) + (1 : Int32)).toInt := by rw [eσ5]; exact congrArg Int32.toInt gi_si_eq
    exact h9ret σ5 mσ5 fσ5 (by first | with_reducible assumption | with_reducible rfl | omega | assumption | rfl)
theorem lim_Nsame {n m : Nat} (hn : isN n) (hm : isN m) (h : n % 16 = m % 16) (k : Nat) : lim (n + 1) k = lim (m + 1) k := by
  rcases hn with rfl | rfl | rfl | rfl | rfl | rfl | rfl | rfl | rfl | rfl <;> rcases hm with rfl | rfl | rfl | rfl | rfl | rfl | rfl | rfl | rfl | rfl <;> first | rfl | (exfalso; omega)
theorem shr0_slen : ∀ i, i < 8 → nI (slen i) >>> ((0 : Int32) &&& 31) = nI (slen i) := by decide +kernel
theorem k0_coder {l : Launch} {V : Vx} {c0 : Nat} {σ : Sg} {Qk : Int32 → Sg → Prop} (hc0 : c0 < 8) (h : Qk 0 σ) : K_J0_coder_7d493 l V c0 σ Qk := by
  refine e_J0_coder_7d493 (fun M hl hV hN C => ?_)
  subst hl
  subst hV
  exact s_J0_coder_7d493_0 C hN hc0 ⟨fun q => absurd q (by decide +kernel), fun _ => h⟩
theorem k0_isLatin1 {l : Launch} {V : Vx} {c0 : Nat} {σ : Sg} {Qk : Int32 → Sg → Prop} (hc0 : c0 < 8) (h : Qk 1 σ) : K_J0_isLatin1_aae02 l V c0 σ Qk := by
  refine e_J0_isLatin1_aae02 (fun M hl hV hN C => ?_)
  subst hl
  subst hV
  exact s_J0_isLatin1_aae02_0 C hN hc0 ⟨fun q => absurd q (by decide +kernel), fun _ => ⟨fun q => absurd rfl q, fun _ => h⟩⟩
theorem k_J0_length_8abf5 {l : Launch} {V : Vx} {c0 : Nat} {σ0 : Sg} {Qk : Int32 → Sg → Prop} (hc0 : c0 < 8) (m0 : XI V σ0) (h9ret : ∀ (r : Int32) (σ' : Sg), XI V σ' → FX (fun id => False) (fun _ _ => False) σ0 σ' → (r.toInt = (slen c0 : Int)) → Qk r σ') : K_J0_length_8abf5 l V c0 σ0 Qk := by
  refine e_J0_length_8abf5 (fun M hl hV hN C => ?_)
  subst hl
  subst hV
  refine s_J0_length_8abf5_0 C hN hc0 (k0_coder hc0 ?_)
  rw [shr0_slen c0 hc0]
  exact h9ret _ σ0 m0 FX_rf (nI_slen hc0).1
theorem vp_two {i : Int32} {n : Nat} (h : vp_in i n) : ¬ i < 0 ∧ i.toNatClampNeg < n := ⟨fun q => h (Or.inl q), vp_lt h⟩
theorem k0_charAt1 {l : Launch} {V : Vx} {a1 : Nat} {a2 : Int32} {σ : Sg} {Qk : Int32 → Sg → Prop} (ha1 : a1 < 8) (hv : vp_in a2 (slen a1)) (h : Qk (sby a1 a2.toNatClampNeg) σ) : K_J1_charAt_3b067 l V a1 a2 σ Qk := by
  refine e_J1_charAt_3b067 (fun M hl hV hN C => ?_)
  subst hl
  subst hV
  obtain ⟨h0, h1⟩ := vp_two hv
  obtain ⟨n1, n2, -⟩ := sby_nar a1 ha1 _ h1
  have hn := nI_slen ha1
  have h00 : 0 ≤ a2.toInt := by
    have := Int32.not_lt.mp h0
    exact Int32.le_iff_toInt_le.mp this
  have ec := cl_eq h00
  refine s_J1_charAt_3b067_0 C hN ha1 (k_J0_checkIndex h0 (Int32.lt_iff_toInt_lt.mpr (by omega)) ⟨hv, n1, ?_⟩)
  rw [n2]
  exact h
theorem k_J0_charAt_5068e {l : Launch} {V : Vx} {c0 : Nat} {a1 : Int32} {σ0 : Sg} {Qk : Int32 → Sg → Prop} (hc0 : c0 < 8) (m0 : XI V σ0) (pre0 : vp_in a1 (slen c0)) (h9ret : ∀ (r : Int32) (σ' : Sg), XI V σ' → FX (fun id => False) (fun _ _ => False) σ0 σ' → (32 ≤ r.toInt ∧ r.toInt ≤ 127) → (r = sby c0 a1.toNatClampNeg) → Qk r σ') : K_J0_charAt_5068e l V c0 a1 σ0 Qk := by
  refine e_J0_charAt_5068e (fun M hl hV hN C => ?_)
  subst hl
  subst hV
  obtain ⟨n1, n2, n3, n4⟩ := sby_nar c0 hc0 _ (vp_lt pre0)
  refine s_J0_charAt_5068e_0 C hN hc0 (k0_isLatin1 hc0 ⟨fun q => absurd q (by decide +kernel), fun _ => ?_⟩)
  exact k0_charAt1 hc0 pre0 ⟨n3, h9ret _ σ0 m0 FX_rf n4 rfl⟩
set_option maxRecDepth 100000 in
set_option maxHeartbeats 4000000 in
theorem k_X2_holds {l : Launch} {V : Vx} {c0 : Nat} {a1 : Int32} {a2 : Int32} {a3 : Nat} {σ0 : Sg} {Qk : Int32 → Sg → Prop} (hc0 : kd c0 = (12, 0)) (lc0 : c0 ∈ ids (V)) {na3 : Nat} (ha3 : kd a3 = (0, na3)) (la3 : a3 ∈ ids (V)) (m0 : XI V σ0) (l_a1 : 0 ≤ a1.toInt) (u_a1 : a1.toInt ≤ 100) (pre0 : na3 = 6) (h9ret : ∀ (r : Int32) (σ' : Sg), XI V σ' → FX (fun id => False) (fun _ _ => False) σ0 σ' → (0 ≤ r.toInt) → (r.toInt ≤ 1) → Qk r σ') : K_X2_holds l V c0 a1 a2 a3 σ0 Qk := by
  refine e_X2_holds (fun M hl hV hN C => ?_)
  subst hl
  subst hV
  have gc0 : hid _ := kdF_ge hc0
  have T : ∀ n : Nat, (∀ (x2 : Int32) (x4 : Int32) (x5 : Int32) (σ : Sg), XI (mV M) σ → FX (fun id => False) (fun _ _ => False) σ0 σ → (0 ≤ x5.toInt) → (x5.toInt ≤ 100) → (101 - x5.toInt).toNat * 2 + 1 < n → PS M 6 [(0, .ref c0), (2, .int x2), (3, .ref a3), (4, .int x4), (5, .int x5)] [] σ (0, 0)) ∧ (∀ (x4 : Int32) (σ : Sg), XI (mV M) σ → FX (fun id => False) (fun _ _ => False) σ0 σ → 1 < n → PS M 187 [(4, .int x4)] [] σ (0, 0)) ∧ (∀ (x2 : Int32) (x4 : Int32) (x5 : Int32) (z0 : Int32) (σ : Sg), XI (mV M) σ → FX (fun id => False) (fun _ _ => False) σ0 σ → (0 ≤ x5.toInt) → (x5.toInt ≤ 99) → (101 - x5.toInt).toNat * 2 < n → PS M 107 [(0, .ref c0), (2, .int x2), (3, .ref a3), (4, .int x4), (5, .int x5)] [.int z0] σ (0, 0)) := by
    intro n
    induction n with
    | zero => exact ⟨fun _ _ _ _ _ _ _ _ h8 => absurd h8 (Nat.not_lt_zero _), fun _ _ _ _ h8 => absurd h8 (Nat.not_lt_zero _), fun _ _ _ _ _ _ _ _ _ h8 => absurd h8 (Nat.not_lt_zero _)⟩
    | succ n ih =>
      obtain ⟨ih6, ih187, ih107⟩ := ih
      refine ⟨?_, ?_, ?_⟩
      · intro x2 x4 x5 σ mσ fσ lx5 ux5 hmu
        have k_1 : (gi σ c0 4).toInt = (gi σ0 c0 4).toInt := congrArg Int32.toInt (FX_i fσ id id)
        have t_2 := XI_c1 mσ (id := c0) (k := 4) (lim_F0_4 hc0)
        refine s_X2_holds_6 C hN hc0 lc0 ha3 la3 ?_
        refine ⟨?_, ?_⟩
        · intro q_3
          have w_4 := Int32.toInt_lt x2
          have w_5 := Int32.le_toInt x2
          have b_6 : x2.toInt ≤ x5.toInt := Int32.le_iff_toInt_le.mp q_3
          have w_7 := Int32.toInt_lt x4
          have w_8 := Int32.le_toInt x4
          exact ih187 x4 σ mσ fσ (by omega)
        · intro q_3
          have w_9 := Int32.toInt_lt x2
          have w_10 := Int32.le_toInt x2
          have b_11 : ¬ x2.toInt ≤ x5.toInt := fun h9 => q_3 (Int32.le_iff_toInt_le.mpr h9)
          refine ⟨?_, ?_⟩
          · intro q_12
            have b_13 : (gi σ c0 4).toInt ≤ x5.toInt := Int32.le_iff_toInt_le.mp q_12
            have w_14 := Int32.toInt_lt x4
            have w_15 := Int32.le_toInt x4
            exact ih187 x4 σ mσ fσ (by omega)
          · intro q_12
            have b_16 : ¬ (gi σ c0 4).toInt ≤ x5.toInt := fun h9 => q_12 (Int32.le_iff_toInt_le.mpr h9)
            have hv_17 : vp_in x5 100 := vp_in_iff.mpr ⟨by omega, by omega⟩
            refine ⟨hv_17, ?_⟩
            intro v4 ev4
            have t_18 := XI_c1 mσ (id := (c0 + 1)) (k := x5.toNatClampNeg) (lim_F1 hc0 _)
            have t_19 : v4.toInt = (gi σ (c0 + 1) x5.toNatClampNeg).toInt := congrArg Int32.toInt ev4
            refine ⟨?_, ?_⟩
            · intro q_20
              have b_21 : v4.toInt < 0 := Int32.lt_iff_toInt_lt.mp q_20
              refine ⟨?_, ?_⟩
              · intro q_22
                have b_23 : ¬ v4.toInt = (-1) := fun h9 => q_22 (Int32.toInt_inj.mp h9)
                intro v7 ev7
                intro v8 ev8
                refine ⟨?_, ?_⟩
                · intro q_24
                  have b_25 : ¬ v4.toInt = (-3) := fun h9 => q_24 (Int32.toInt_inj.mp h9)
                  intro v10 ev10
                  intro v11 ev11
                  have t_26 : (x5 + (1 : Int32)).toInt = x5.toInt + 1 := i_add (x := x5) (y := (1 : Int32)) (by show (_ : Int) ≤ x5.toInt + 1; omega) (by show x5.toInt + 1 ≤ (_ : Int); omega)
                  have t_27 : v11.toInt = (x5 + (1 : Int32)).toInt := congrArg Int32.toInt ev11
                  have w_28 := Int32.toInt_lt v10
                  have w_29 := Int32.le_toInt v10
                  exact ih6 x2 v10 v11 σ mσ fσ (by omega) (by omega) (by omega)
                · intro q_24
                  have b_30 : v4.toInt = (-3) := congrArg Int32.toInt q_24
                  intro v12 ev12
                  intro v13 ev13
                  have t_31 : (x5 + (1 : Int32)).toInt = x5.toInt + 1 := i_add (x := x5) (y := (1 : Int32)) (by show (_ : Int) ≤ x5.toInt + 1; omega) (by show x5.toInt + 1 ≤ (_ : Int); omega)
                  have t_32 : v13.toInt = (x5 + (1 : Int32)).toInt := congrArg Int32.toInt ev13
                  have w_33 := Int32.toInt_lt v12
                  have w_34 := Int32.le_toInt v12
                  exact ih6 x2 v12 v13 σ mσ fσ (by omega) (by omega) (by omega)
              · intro q_22
                have b_35 : v4.toInt = (-1) := congrArg Int32.toInt q_22
                intro v14 ev14
                intro v15 ev15
                have t_36 : (x5 + (1 : Int32)).toInt = x5.toInt + 1 := i_add (x := x5) (y := (1 : Int32)) (by show (_ : Int) ≤ x5.toInt + 1; omega) (by show x5.toInt + 1 ≤ (_ : Int); omega)
                have t_37 : v15.toInt = (x5 + (1 : Int32)).toInt := congrArg Int32.toInt ev15
                have w_38 := Int32.toInt_lt v14
                have w_39 := Int32.le_toInt v14
                exact ih6 x2 v14 v15 σ mσ fσ (by omega) (by omega) (by omega)
            · intro q_20
              have b_40 : ¬ v4.toInt < 0 := fun h9 => q_20 (Int32.lt_iff_toInt_lt.mpr h9)
              try have t_41 : (v4 / (300 : Int32)).toInt = v4.toInt / 300 := i_div (by omega) (by decide +kernel) rfl
              have hv_42 : vp_in (v4 / (300 : Int32)) na3 := vp_in_iff.mpr ⟨by omega, by omega⟩
              refine ⟨hv_42, ?_⟩
              intro v17 ev17
              intro v18 ev18
              refine ⟨?_, ?_⟩
              · intro q_43
                have w_44 := Int32.toInt_lt v18
                have w_45 := Int32.le_toInt v18
                have b_46 : ¬ v18.toInt = 0 := fun h9 => q_43 (Int32.toInt_inj.mp h9)
                refine ⟨?_, ?_⟩
                · intro q_47
                  have b_48 : ¬ v18.toInt = 1 := fun h9 => q_47 (Int32.toInt_inj.mp h9)
                  refine ⟨?_, ?_⟩
                  · intro q_49
                    have w_50 := Int32.toInt_lt v17
                    have w_51 := Int32.le_toInt v17
                    have b_52 : v17.toInt ≤ 0 := Int32.le_iff_toInt_le.mp q_49
                    have w_53 := Int32.toInt_lt x4
                    have w_54 := Int32.le_toInt x4
                    have z_55 : (0 : Int32).toInt = 0 := rfl
                    exact ih107 x2 x4 x5 (0 : Int32) σ mσ fσ (by omega) (by omega) (by omega)
                  · intro q_49
                    have w_56 := Int32.toInt_lt v17
                    have w_57 := Int32.le_toInt v17
                    have b_58 : ¬ v17.toInt ≤ 0 := fun h9 => q_49 (Int32.le_iff_toInt_le.mpr h9)
                    have w_59 := Int32.toInt_lt x4
                    have w_60 := Int32.le_toInt x4
                    have z_61 : (1 : Int32).toInt = 1 := rfl
                    exact ih107 x2 x4 x5 (1 : Int32) σ mσ fσ (by omega) (by omega) (by omega)
                · intro q_47
                  have b_62 : v18.toInt = 1 := congrArg Int32.toInt q_47
                  refine ⟨?_, ?_⟩
                  · intro q_63
                    have w_64 := Int32.toInt_lt v17
                    have w_65 := Int32.le_toInt v17
                    have b_66 : ¬ v17.toInt = 0 := fun h9 => q_63 (Int32.toInt_inj.mp h9)
                    have w_67 := Int32.toInt_lt x4
                    have w_68 := Int32.le_toInt x4
                    have z_69 : (0 : Int32).toInt = 0 := rfl
                    exact ih107 x2 x4 x5 (0 : Int32) σ mσ fσ (by omega) (by omega) (by omega)
                  · intro q_63
                    have w_70 := Int32.toInt_lt v17
                    have w_71 := Int32.le_toInt v17
                    have b_72 : v17.toInt = 0 := congrArg Int32.toInt q_63
                    have w_73 := Int32.toInt_lt x4
                    have w_74 := Int32.le_toInt x4
                    have z_75 : (1 : Int32).toInt = 1 := rfl
                    exact ih107 x2 x4 x5 (1 : Int32) σ mσ fσ (by omega) (by omega) (by omega)
              · intro q_43
                have w_76 := Int32.toInt_lt v18
                have w_77 := Int32.le_toInt v18
                have b_78 : v18.toInt = 0 := congrArg Int32.toInt q_43
                refine ⟨?_, ?_⟩
                · intro q_79
                  have w_80 := Int32.toInt_lt v17
                  have w_81 := Int32.le_toInt v17
                  have b_82 : (0 : Int) ≤ v17.toInt := Int32.le_iff_toInt_le.mp q_79
                  have w_83 := Int32.toInt_lt x4
                  have w_84 := Int32.le_toInt x4
                  have z_85 : (0 : Int32).toInt = 0 := rfl
                  exact ih107 x2 x4 x5 (0 : Int32) σ mσ fσ (by omega) (by omega) (by omega)
                · intro q_79
                  have w_86 := Int32.toInt_lt v17
                  have w_87 := Int32.le_toInt v17
                  have b_88 : ¬ (0 : Int) ≤ v17.toInt := fun h9 => q_79 (Int32.le_iff_toInt_le.mpr h9)
                  have w_89 := Int32.toInt_lt x4
                  have w_90 := Int32.le_toInt x4
                  have z_91 : (1 : Int32).toInt = 1 := rfl
                  exact ih107 x2 x4 x5 (1 : Int32) σ mσ fσ (by omega) (by omega) (by omega)
      · intro x4 σ mσ fσ hmu
        have k_92 : (gi σ c0 4).toInt = (gi σ0 c0 4).toInt := congrArg Int32.toInt (FX_i fσ id id)
        have t_93 := XI_c1 mσ (id := c0) (k := 4) (lim_F0_4 hc0)
        refine s_X2_holds_187 C hN  ?_
        refine ⟨?_, ?_⟩
        · intro q_94
          have w_95 := Int32.toInt_lt x4
          have w_96 := Int32.le_toInt x4
          have b_97 : ¬ (x4 &&& (1 : Int32)).toInt = 1 := fun h9 => q_94 (Int32.toInt_inj.mp h9)
          have z_98 : (0 : Int32).toInt = 0 := rfl
          exact h9ret (0 : Int32) σ mσ fσ (by omega) (by omega)
        · intro q_94
          have w_99 := Int32.toInt_lt x4
          have w_100 := Int32.le_toInt x4
          have b_101 : (x4 &&& (1 : Int32)).toInt = 1 := congrArg Int32.toInt q_94
          have z_102 : (1 : Int32).toInt = 1 := rfl
          exact h9ret (1 : Int32) σ mσ fσ (by omega) (by omega)
      · intro x2 x4 x5 z0 σ mσ fσ lx5 ux5 hmu
        have k_103 : (gi σ c0 4).toInt = (gi σ0 c0 4).toInt := congrArg Int32.toInt (FX_i fσ id id)
        have t_104 := XI_c1 mσ (id := c0) (k := 4) (lim_F0_4 hc0)
        refine s_X2_holds_107 C hN hc0 lc0 ha3 la3 ?_
        refine ⟨?_, ?_⟩
        · intro q_105
          have w_106 := Int32.toInt_lt z0
          have w_107 := Int32.le_toInt z0
          have b_108 : z0.toInt = 0 := congrArg Int32.toInt q_105
          intro v2 ev2
          intro v3 ev3
          have t_109 : (x5 + (1 : Int32)).toInt = x5.toInt + 1 := i_add (x := x5) (y := (1 : Int32)) (by show (_ : Int) ≤ x5.toInt + 1; omega) (by show x5.toInt + 1 ≤ (_ : Int); omega)
          have t_110 : v3.toInt = (x5 + (1 : Int32)).toInt := congrArg Int32.toInt ev3
          have w_111 := Int32.toInt_lt x2
          have w_112 := Int32.le_toInt x2
          have w_113 := Int32.toInt_lt v2
          have w_114 := Int32.le_toInt v2
          exact ih6 x2 v2 v3 σ mσ fσ (by omega) (by omega) (by omega)
        · intro q_105
          have w_115 := Int32.toInt_lt z0
          have w_116 := Int32.le_toInt z0
          have b_117 : ¬ z0.toInt = 0 := fun h9 => q_105 (Int32.toInt_inj.mp h9)
          intro v4 ev4
          intro v5 ev5
          have t_118 : (x5 + (1 : Int32)).toInt = x5.toInt + 1 := i_add (x := x5) (y := (1 : Int32)) (by show (_ : Int) ≤ x5.toInt + 1; omega) (by show x5.toInt + 1 ≤ (_ : Int); omega)
          have t_119 : v5.toInt = (x5 + (1 : Int32)).toInt := congrArg Int32.toInt ev5
          have w_120 := Int32.toInt_lt x2
          have w_121 := Int32.le_toInt x2
          have w_122 := Int32.toInt_lt v4
          have w_123 := Int32.le_toInt v4
          exact ih6 x2 v4 v5 σ mσ fσ (by omega) (by omega) (by omega)
  obtain ⟨U6, U187, U107⟩ := T 900
  have f0 : FX (fun id => False) (fun _ _ => False) σ0 σ0 := FX_rf
  have t_124 := XI_c1 m0 (id := c0) (k := 4) (lim_F0_4 hc0)
  refine s_X2_holds_0 C hN hc0 lc0 ha3 la3 ?_
  have w_125 := Int32.toInt_lt a2
  have w_126 := Int32.le_toInt a2
  have z_127 : (0 : Int32).toInt = 0 := rfl
  exact U6 a2 (0 : Int32) a1 σ0 m0 f0 (by omega) (by omega) (by omega)
set_option maxRecDepth 100000 in
set_option maxHeartbeats 4000000 in
theorem k_X2_paceOf {l : Launch} {V : Vx} {c0 : Nat} {a1 : Nat} {σ0 : Sg} {Qk : Int32 → Sg → Prop} (hc0 : kd c0 = (12, 0)) (lc0 : c0 ∈ ids (V)) {na1 : Nat} (ha1 : kd a1 = (0, na1)) (la1 : a1 ∈ ids (V)) (m0 : XI V σ0) (pre0 : na1 = 6) (h9ret : ∀ (r : Int32) (σ' : Sg), XI V σ' → FX (fun id => False) (fun _ _ => False) σ0 σ' → Qk r σ') : K_X2_paceOf l V c0 a1 σ0 Qk := by
  refine e_X2_paceOf (fun M hl hV hN C => ?_)
  subst hl
  subst hV
  have gc0 : hid _ := kdF_ge hc0
  have T : ∀ n : Nat, (∀ (x2 : Int32) (x3 : Int32) (x4 : Int32) (σ : Sg), XI (mV M) σ → FX (fun id => False) (fun _ _ => False) σ0 σ → (0 ≤ x3.toInt) → (x3.toInt ≤ 100) → (0 ≤ x4.toInt) → (x4.toInt ≤ 10) → (11 - x4.toInt).toNat * 2 + 1 < n → PS M 8 [(0, .ref c0), (1, .ref a1), (2, .int x2), (3, .int x3), (4, .int x4)] [] σ (0, 0)) ∧ (∀ (x4 : Int32) (z0 : Int32) (z1 : Int32) (σ : Sg), XI (mV M) σ → FX (fun id => False) (fun _ _ => False) σ0 σ → (0 ≤ x4.toInt) → (x4.toInt ≤ 9) → (11 - x4.toInt).toNat * 2 < n → PS M 73 [(0, .ref c0), (1, .ref a1), (4, .int x4)] [.int z0, .int z1] σ (0, 0)) := by
    intro n
    induction n with
    | zero => exact ⟨fun _ _ _ _ _ _ _ _ _ _ h8 => absurd h8 (Nat.not_lt_zero _), fun _ _ _ _ _ _ _ _ h8 => absurd h8 (Nat.not_lt_zero _)⟩
    | succ n ih =>
      obtain ⟨ih8, ih73⟩ := ih
      refine ⟨?_, ?_⟩
      · intro x2 x3 x4 σ mσ fσ lx3 ux3 lx4 ux4 hmu
        have k_1 : (gi σ c0 8).toInt = (gi σ0 c0 8).toInt := congrArg Int32.toInt (FX_i fσ id id)
        have t_2 := XI_c1 mσ (id := c0) (k := 8) (lim_F0_8 hc0)
        refine s_X2_paceOf_8 C hN hc0 lc0 ha1 la1 ?_
        refine ⟨?_, ?_⟩
        · intro q_3
          have b_4 : (gi σ c0 8).toInt ≤ x4.toInt := Int32.le_iff_toInt_le.mp q_3
          refine ⟨?_, ?_⟩
          · intro q_5
            have w_6 := Int32.toInt_lt x2
            have w_7 := Int32.le_toInt x2
            have b_8 : x2.toInt ≤ 0 := Int32.le_iff_toInt_le.mp q_5
            have z_9 : (0 : Int32).toInt = 0 := rfl
            exact h9ret (0 : Int32) σ mσ fσ
          · intro q_5
            have w_10 := Int32.toInt_lt x2
            have w_11 := Int32.le_toInt x2
            have b_12 : ¬ x2.toInt ≤ 0 := fun h9 => q_5 (Int32.le_iff_toInt_le.mpr h9)
            exact h9ret x2 σ mσ fσ
        · intro q_3
          have b_13 : ¬ (gi σ c0 8).toInt ≤ x4.toInt := fun h9 => q_3 (Int32.le_iff_toInt_le.mpr h9)
          have hv_14 : vp_in x4 10 := vp_in_iff.mpr ⟨by omega, by omega⟩
          refine ⟨hv_14, ?_⟩
          refine ⟨?_, ?_⟩
          · intro q_15
            have w_16 := Int32.toInt_lt (gi σ (c0 + 2) x4.toNatClampNeg)
            have w_17 := Int32.le_toInt (gi σ (c0 + 2) x4.toNatClampNeg)
            have b_18 : (1 : Int) < (gi σ (c0 + 2) x4.toNatClampNeg).toInt := Int32.lt_iff_toInt_lt.mp q_15
            refine ⟨hv_14, ?_⟩
            intro v6 ev6
            have t_19 := XI_c1 mσ (id := (c0 + 4)) (k := x4.toNatClampNeg) (lim_F4 hc0 _)
            have t_20 : v6.toInt = (gi σ (c0 + 4) x4.toNatClampNeg).toInt := congrArg Int32.toInt ev6
            intro v7 ev7
            have t_21 : (x4 + (1 : Int32)).toInt = x4.toInt + 1 := i_add (x := x4) (y := (1 : Int32)) (by show (_ : Int) ≤ x4.toInt + 1; omega) (by show x4.toInt + 1 ≤ (_ : Int); omega)
            have t_22 : v7.toInt = (x4 + (1 : Int32)).toInt := congrArg Int32.toInt ev7
            have w_23 := Int32.toInt_lt x2
            have w_24 := Int32.le_toInt x2
            exact ih8 x2 v6 v7 σ mσ fσ (by omega) (by omega) (by omega) (by omega) (by omega)
          · intro q_15
            have w_25 := Int32.toInt_lt (gi σ (c0 + 2) x4.toNatClampNeg)
            have w_26 := Int32.le_toInt (gi σ (c0 + 2) x4.toNatClampNeg)
            have b_27 : ¬ (1 : Int) < (gi σ (c0 + 2) x4.toNatClampNeg).toInt := fun h9 => q_15 (Int32.lt_iff_toInt_lt.mpr h9)
            refine ⟨hv_14, ?_⟩
            have t_28 := XI_c1 mσ (id := (c0 + 4)) (k := x4.toNatClampNeg) (lim_F4 hc0 _)
            refine k_X2_holds hc0 lc0 ha1 la1 mσ  (by omega) (by omega) (by first | with_reducible assumption | with_reducible rfl | omega | assumption | rfl) (fun r10 σ9 mσ9 cσ9 plσ9 phσ9 => ?_)
            obtain rfl := FX_nil cσ9
            refine ⟨?_, ?_⟩
            · intro q_29
              have b_30 : r10.toInt = 0 := congrArg Int32.toInt q_29
              refine ⟨hv_14, ?_⟩
              intro v13 ev13
              have t_31 : v13.toInt = (gi σ (c0 + 4) x4.toNatClampNeg).toInt := congrArg Int32.toInt ev13
              intro v14 ev14
              have t_32 : (x4 + (1 : Int32)).toInt = x4.toInt + 1 := i_add (x := x4) (y := (1 : Int32)) (by show (_ : Int) ≤ x4.toInt + 1; omega) (by show x4.toInt + 1 ≤ (_ : Int); omega)
              have t_33 : v14.toInt = (x4 + (1 : Int32)).toInt := congrArg Int32.toInt ev14
              have w_34 := Int32.toInt_lt x2
              have w_35 := Int32.le_toInt x2
              exact ih8 x2 v13 v14 σ mσ fσ (by omega) (by omega) (by omega) (by omega) (by omega)
            · intro q_29
              have b_36 : ¬ r10.toInt = 0 := fun h9 => q_29 (Int32.toInt_inj.mp h9)
              refine ⟨hv_14, ?_⟩
              refine ⟨?_, ?_⟩
              · intro q_37
                have b_38 : ¬ (gi σ (c0 + 2) x4.toNatClampNeg).toInt = 0 := fun h9 => q_37 (Int32.toInt_inj.mp h9)
                refine ⟨hv_14, ?_⟩
                have w_39 := Int32.toInt_lt x2
                have w_40 := Int32.le_toInt x2
                exact ih73 x4 (-(gi σ (c0 + 3) x4.toNatClampNeg)) x2 σ mσ fσ (by omega) (by omega) (by omega)
              · intro q_37
                have b_41 : (gi σ (c0 + 2) x4.toNatClampNeg).toInt = 0 := congrArg Int32.toInt q_37
                refine ⟨hv_14, ?_⟩
                have w_42 := Int32.toInt_lt (gi σ (c0 + 3) x4.toNatClampNeg)
                have w_43 := Int32.le_toInt (gi σ (c0 + 3) x4.toNatClampNeg)
                have w_44 := Int32.toInt_lt x2
                have w_45 := Int32.le_toInt x2
                exact ih73 x4 (gi σ (c0 + 3) x4.toNatClampNeg) x2 σ mσ fσ (by omega) (by omega) (by omega)
      · intro x4 z0 z1 σ mσ fσ lx4 ux4 hmu
        have k_46 : (gi σ c0 8).toInt = (gi σ0 c0 8).toInt := congrArg Int32.toInt (FX_i fσ id id)
        have t_47 := XI_c1 mσ (id := c0) (k := 8) (lim_F0_8 hc0)
        refine s_X2_paceOf_73 C hN hc0 lc0 ha1 la1 ?_
        intro v1 ev1
        have hv_48 : vp_in x4 10 := vp_in_iff.mpr ⟨by omega, by omega⟩
        refine ⟨hv_48, ?_⟩
        intro v3 ev3
        have t_49 := XI_c1 mσ (id := (c0 + 4)) (k := x4.toNatClampNeg) (lim_F4 hc0 _)
        have t_50 : v3.toInt = (gi σ (c0 + 4) x4.toNatClampNeg).toInt := congrArg Int32.toInt ev3
        intro v4 ev4
        have t_51 : (x4 + (1 : Int32)).toInt = x4.toInt + 1 := i_add (x := x4) (y := (1 : Int32)) (by show (_ : Int) ≤ x4.toInt + 1; omega) (by show x4.toInt + 1 ≤ (_ : Int); omega)
        have t_52 : v4.toInt = (x4 + (1 : Int32)).toInt := congrArg Int32.toInt ev4
        have w_53 := Int32.toInt_lt v1
        have w_54 := Int32.le_toInt v1
        exact ih8 v1 v3 v4 σ mσ fσ (by omega) (by omega) (by omega) (by omega) (by omega)
  obtain ⟨U8, U73⟩ := T 900
  have f0 : FX (fun id => False) (fun _ _ => False) σ0 σ0 := FX_rf
  have t_55 := XI_c1 m0 (id := c0) (k := 8) (lim_F0_8 hc0)
  refine s_X2_paceOf_0 C hN hc0 lc0 ha1 la1 ?_
  have z_56 : (6 : Int32).toInt = 6 := rfl
  have z_57 : (0 : Int32).toInt = 0 := rfl
  exact U8 (6 : Int32) (0 : Int32) (0 : Int32) σ0 m0 f0 (by omega) (by omega) (by omega) (by omega) (by omega)
set_option maxRecDepth 100000 in
set_option maxHeartbeats 4000000 in
theorem k_X4_strides {l : Launch} {V : Vx} {c0 : Nat} {a1 : Int32} {a2 : Nat} {a3 : Int32} {σ0 : Sg} {Qk : Int32 → Sg → Prop} {ci0 : Nat} (sc0 : ci0 = 0 ∨ ci0 = 3 ∨ ci0 = 4 ∨ ci0 = 6 ∨ ci0 = 7 ∨ ci0 = 8 ∨ ci0 = 10) (hc0 : kd c0 = (10 + ci0, 0)) (lc0 : c0 ∈ ids (V)) (ha2 : isC a2) (m0 : XI V σ0) (l_a3 : 0 ≤ a3.toInt) (u_a3 : a3.toInt ≤ 5) (h9ret : ∀ (r : Int32) (σ' : Sg), XI V σ' → FX (fun id => False) (fun _ _ => False) σ0 σ' → Qk r σ') : K_X4_strides l V c0 a1 a2 a3 σ0 Qk := by
  refine e_X4_strides (fun M hl hV hN C => ?_)
  subst hl
  subst hV
  have ic0 : isMc ci0 := by rcases sc0 with rfl | rfl | rfl | rfl | rfl | rfl | rfl <;> decide
  have gc0 := kdM_ge ic0 hc0
  have oa2 : hid (a2 = 1 ∨ a2 = 17 ∨ a2 = 33) := ha2
  have f0 : FX (fun id => False) (fun _ _ => False) σ0 σ0 := FX_rf
  have t_1 := XI_c1 m0 (id := c0) (k := 1) (lim_M0_1 ic0 hc0)
  refine s_X4_strides_0 C hN sc0 hc0 lc0 ha2 ?_
  have hv_2 : vp_in (gi σ0 c0 1) 6 := vp_in_iff.mpr ⟨by omega, by omega⟩
  refine ⟨hv_2, ?_⟩
  intro v2 ev2
  refine ⟨?_, ?_⟩
  · intro q_3
    have w_4 := Int32.toInt_lt a1
    have w_5 := Int32.le_toInt a1
    have w_6 := Int32.toInt_lt v2
    have w_7 := Int32.le_toInt v2
    have b_8 : a1.toInt ≤ v2.toInt := Int32.le_iff_toInt_le.mp q_3
    have z_9 : (0 : Int32).toInt = 0 := rfl
    exact h9ret (0 : Int32) σ0 m0 f0
  · intro q_3
    have w_10 := Int32.toInt_lt a1
    have w_11 := Int32.le_toInt a1
    have w_12 := Int32.toInt_lt v2
    have w_13 := Int32.le_toInt v2
    have b_14 : ¬ a1.toInt ≤ v2.toInt := fun h9 => q_3 (Int32.le_iff_toInt_le.mpr h9)
    exact h9ret (a1 - v2) σ0 m0 f0
set_option maxRecDepth 100000 in
set_option maxHeartbeats 4000000 in
theorem k_X8_strides {l : Launch} {V : Vx} {c0 : Nat} {a1 : Int32} {a2 : Nat} {a3 : Int32} {σ0 : Sg} {Qk : Int32 → Sg → Prop} {ci0 : Nat} (sc0 : ci0 = 6 ∨ ci0 = 8) (hc0 : kd c0 = (10 + ci0, 0)) (lc0 : c0 ∈ ids (V)) (ha2 : isC a2) (m0 : XI V σ0) (l_a3 : 0 ≤ a3.toInt) (u_a3 : a3.toInt ≤ 5) (h9ret : ∀ (r : Int32) (σ' : Sg), XI V σ' → FX (fun id => False) (fun _ _ => False) σ0 σ' → Qk r σ') : K_X8_strides l V c0 a1 a2 a3 σ0 Qk := by
  refine e_X8_strides (fun M hl hV hN C => ?_)
  subst hl
  subst hV
  have ic0 : isMc ci0 := by rcases sc0 with rfl | rfl <;> decide
  have gc0 := kdM_ge ic0 hc0
  have oa2 : hid (a2 = 1 ∨ a2 = 17 ∨ a2 = 33) := ha2
  have f0 : FX (fun id => False) (fun _ _ => False) σ0 σ0 := FX_rf
  refine s_X8_strides_0 C hN sc0 hc0 lc0 ha2 ?_
  exact h9ret a1 σ0 m0 f0
set_option maxRecDepth 100000 in
set_option maxHeartbeats 4000000 in
theorem k_X3_strides {l : Launch} {V : Vx} {c0 : Nat} {a1 : Int32} {a2 : Nat} {a3 : Int32} {σ0 : Sg} {Qk : Int32 → Sg → Prop} {ci0 : Nat} (sc0 : ci0 = 3 ∨ ci0 = 7) (hc0 : kd c0 = (10 + ci0, 0)) (lc0 : c0 ∈ ids (V)) (ha2 : isC a2) (m0 : XI V σ0) (l_a3 : 0 ≤ a3.toInt) (u_a3 : a3.toInt ≤ 5) (h9ret : ∀ (r : Int32) (σ' : Sg), XI V σ' → FX (fun id => False) (fun _ _ => False) σ0 σ' → Qk r σ') : K_X3_strides l V c0 a1 a2 a3 σ0 Qk := by
  refine e_X3_strides (fun M hl hV hN C => ?_)
  subst hl
  subst hV
  have ic0 : isMc ci0 := by rcases sc0 with rfl | rfl <;> decide
  have gc0 := kdM_ge ic0 hc0
  have oa2 : hid (a2 = 1 ∨ a2 = 17 ∨ a2 = 33) := ha2
  have f0 : FX (fun id => False) (fun _ _ => False) σ0 σ0 := FX_rf
  have t_1 := XI_c1 m0 (id := c0) (k := 1) (lim_M0_1 ic0 hc0)
  have t_2 := XI_c1 m0 (id := c0) (k := 2) (lim_M0_2 ic0 hc0)
  refine s_X3_strides_0 C hN sc0 hc0 lc0 ha2 ?_
  refine k_X4_strides (show ci0 = 0 ∨ ci0 = 3 ∨ ci0 = 4 ∨ ci0 = 6 ∨ ci0 = 7 ∨ ci0 = 8 ∨ ci0 = 10 from by omega) hc0 lc0 ha2 m0  (by omega) (by omega) (fun r3 σ2 mσ2 cσ2 => ?_)
  obtain rfl := FX_nil cσ2
  have hv_3 : vp_in (gi σ0 c0 1) 6 := vp_in_iff.mpr ⟨by omega, by omega⟩
  refine ⟨hv_3, ?_⟩
  refine ⟨?_, ?_⟩
  · intro q_4
    have w_5 := Int32.toInt_lt (gi σ0 (a2 + 4) (gi σ0 c0 1).toNatClampNeg)
    have w_6 := Int32.le_toInt (gi σ0 (a2 + 4) (gi σ0 c0 1).toNatClampNeg)
    have b_7 : (gi σ0 (a2 + 4) (gi σ0 c0 1).toNatClampNeg).toInt ≤ 5 := Int32.le_iff_toInt_le.mp q_4
    exact h9ret (r3 + (0 : Int32)) σ0 m0 f0
  · intro q_4
    have w_8 := Int32.toInt_lt (gi σ0 (a2 + 4) (gi σ0 c0 1).toNatClampNeg)
    have w_9 := Int32.le_toInt (gi σ0 (a2 + 4) (gi σ0 c0 1).toNatClampNeg)
    have b_10 : ¬ (gi σ0 (a2 + 4) (gi σ0 c0 1).toNatClampNeg).toInt ≤ 5 := fun h9 => q_4 (Int32.le_iff_toInt_le.mpr h9)
    exact h9ret (r3 + (gi σ0 c0 2)) σ0 m0 f0
set_option maxRecDepth 100000 in
set_option maxHeartbeats 4000000 in
theorem k_X0_strides {l : Launch} {V : Vx} {c0 : Nat} {a1 : Int32} {a2 : Nat} {a3 : Int32} {σ0 : Sg} {Qk : Int32 → Sg → Prop} {ci0 : Nat} (sc0 : ci0 = 0 ∨ ci0 = 10) (hc0 : kd c0 = (10 + ci0, 0)) (lc0 : c0 ∈ ids (V)) (ha2 : isC a2) (m0 : XI V σ0) (l_a3 : 0 ≤ a3.toInt) (u_a3 : a3.toInt ≤ 5) (h9ret : ∀ (r : Int32) (σ' : Sg), XI V σ' → FX (fun id => False) (fun _ _ => False) σ0 σ' → Qk r σ') : K_X0_strides l V c0 a1 a2 a3 σ0 Qk := by
  refine e_X0_strides (fun M hl hV hN C => ?_)
  subst hl
  subst hV
  have ic0 : isMc ci0 := by rcases sc0 with rfl | rfl <;> decide
  have gc0 := kdM_ge ic0 hc0
  have oa2 : hid (a2 = 1 ∨ a2 = 17 ∨ a2 = 33) := ha2
  have f0 : FX (fun id => False) (fun _ _ => False) σ0 σ0 := FX_rf
  refine s_X0_strides_0 C hN sc0 hc0 lc0 ha2 ?_
  refine k_X4_strides (show ci0 = 0 ∨ ci0 = 3 ∨ ci0 = 4 ∨ ci0 = 6 ∨ ci0 = 7 ∨ ci0 = 8 ∨ ci0 = 10 from by omega) hc0 lc0 ha2 m0  (by omega) (by omega) (fun r3 σ2 mσ2 cσ2 => ?_)
  obtain rfl := FX_nil cσ2
  exact h9ret (r3 / (2 : Int32)) σ0 m0 f0
set_option maxRecDepth 100000 in
set_option maxHeartbeats 4000000 in
theorem k_X6_strides {l : Launch} {V : Vx} {c0 : Nat} {a1 : Int32} {a2 : Nat} {a3 : Int32} {σ0 : Sg} {Qk : Int32 → Sg → Prop} {ci0 : Nat} (sc0 : ci0 = 6) (hc0 : kd c0 = (10 + ci0, 0)) (lc0 : c0 ∈ ids (V)) (ha2 : isC a2) (m0 : XI V σ0) (l_a3 : 0 ≤ a3.toInt) (u_a3 : a3.toInt ≤ 5) (h9ret : ∀ (r : Int32) (σ' : Sg), XI V σ' → FX (fun id => False) (fun _ _ => False) σ0 σ' → Qk r σ') : K_X6_strides l V c0 a1 a2 a3 σ0 Qk := by
  refine e_X6_strides (fun M hl hV hN C => ?_)
  subst hl
  subst hV
  have ic0 : isMc ci0 := by rw [sc0]; decide
  have gc0 := kdM_ge ic0 hc0
  have oa2 : hid (a2 = 1 ∨ a2 = 17 ∨ a2 = 33) := ha2
  have f0 : FX (fun id => False) (fun _ _ => False) σ0 σ0 := FX_rf
  have t_1 := XI_c1 m0 (id := c0) (k := 2) (lim_M0_2 ic0 hc0)
  refine s_X6_strides_0 C hN sc0 hc0 lc0 ha2 ?_
  refine k_X8_strides (show ci0 = 6 ∨ ci0 = 8 from by omega) hc0 lc0 ha2 m0  (by omega) (by omega) (fun r3 σ2 mσ2 cσ2 => ?_)
  obtain rfl := FX_nil cσ2
  intro v4 ev4
  have t_2 : ((gi σ0 c0 2) / (3 : Int32)).toInt = (gi σ0 c0 2).toInt / 3 := i_div (by omega) (by decide +kernel) rfl
  refine ⟨?_, ?_⟩
  · intro q_3
    have w_4 := Int32.toInt_lt v4
    have w_5 := Int32.le_toInt v4
    have b_6 : v4.toInt ≤ 0 := Int32.le_iff_toInt_le.mp q_3
    have z_7 : (0 : Int32).toInt = 0 := rfl
    exact h9ret (0 : Int32) σ0 m0 f0
  · intro q_3
    have w_8 := Int32.toInt_lt v4
    have w_9 := Int32.le_toInt v4
    have b_10 : ¬ v4.toInt ≤ 0 := fun h9 => q_3 (Int32.le_iff_toInt_le.mpr h9)
    exact h9ret v4 σ0 m0 f0
set_option maxRecDepth 100000 in
set_option maxHeartbeats 4000000 in
theorem k_X1_gap {l : Launch} {V : Vx} {c0 : Nat} {σ0 : Sg} {Qk : Int32 → Sg → Prop} (hc0 : isC c0) (m0 : XI V σ0) (h9ret : ∀ (r : Int32) (σ' : Sg), XI V σ' → FX (fun id => False) (fun _ _ => False) σ0 σ' → Qk r σ') : K_X1_gap l V c0 σ0 Qk := by
  refine e_X1_gap (fun M hl hV hN C => ?_)
  subst hl
  subst hV
  have oc0 : hid (c0 = 1 ∨ c0 = 17 ∨ c0 = 33) := hc0
  have f0 : FX (fun id => False) (fun _ _ => False) σ0 σ0 := FX_rf
  refine s_X1_gap_0 C hN hc0 ?_
  refine ⟨?_, ?_⟩
  · intro q_1
    have b_2 : (gi σ0 c0 11).toInt < 0 := Int32.lt_iff_toInt_lt.mp q_1
    obtain ⟨f2, ef2, hf2, lf2⟩ := (m0.2.1 _ hc0).1
    have gf2 : hid _ := kdF_ge hf2
    refine ⟨f2, ef2, hf2, lf2, ?_⟩
    exact h9ret (gi σ0 f2 0) σ0 m0 f0
  · intro q_1
    have b_3 : ¬ (gi σ0 c0 11).toInt < 0 := fun h9 => q_1 (Int32.lt_iff_toInt_lt.mpr h9)
    exact h9ret (gi σ0 c0 11) σ0 m0 f0
set_option maxRecDepth 100000 in
set_option maxHeartbeats 4000000 in
theorem k_X1_isPressedAt {l : Launch} {V : Vx} {c0 : Nat} {a1 : Int32} {σ0 : Sg} {Qk : Int32 → Sg → Prop} (hc0 : isC c0) (m0 : XI V σ0) (l_a1 : 0 ≤ a1.toInt) (u_a1 : a1.toInt ≤ 5) (h9ret : ∀ (r : Int32) (σ' : Sg), XI V σ' → FX (fun id => False) (fun _ _ => False) σ0 σ' → (0 ≤ r.toInt) → (r.toInt ≤ 1) → Qk r σ') : K_X1_isPressedAt l V c0 a1 σ0 Qk := by
  refine e_X1_isPressedAt (fun M hl hV hN C => ?_)
  subst hl
  subst hV
  have oc0 : hid (c0 = 1 ∨ c0 = 17 ∨ c0 = 33) := hc0
  have f0 : FX (fun id => False) (fun _ _ => False) σ0 σ0 := FX_rf
  have t_1 := XI_c1 m0 (id := c0) (k := 3) (lim_C0_3 hc0)
  refine s_X1_isPressedAt_0 C hN hc0 ?_
  refine ⟨?_, ?_⟩
  · intro q_2
    have t_3 : (a1 + (1 : Int32)).toInt = a1.toInt + 1 := i_add (x := a1) (y := (1 : Int32)) (by show (_ : Int) ≤ a1.toInt + 1; omega) (by show a1.toInt + 1 ≤ (_ : Int); omega)
    have b_4 : (gi σ0 c0 3).toInt ≤ (a1 + (1 : Int32)).toInt := Int32.le_iff_toInt_le.mp q_2
    have z_5 : (0 : Int32).toInt = 0 := rfl
    exact h9ret (0 : Int32) σ0 m0 f0 (by omega) (by omega)
  · intro q_2
    have t_6 : (a1 + (1 : Int32)).toInt = a1.toInt + 1 := i_add (x := a1) (y := (1 : Int32)) (by show (_ : Int) ≤ a1.toInt + 1; omega) (by show a1.toInt + 1 ≤ (_ : Int); omega)
    have b_7 : ¬ (gi σ0 c0 3).toInt ≤ (a1 + (1 : Int32)).toInt := fun h9 => q_2 (Int32.le_iff_toInt_le.mpr h9)
    have hv_8 : vp_in a1 6 := vp_in_iff.mpr ⟨by omega, by omega⟩
    refine ⟨hv_8, ?_⟩
    have t_9 := XI_c1 m0 (id := (c0 + 2)) (k := a1.toNatClampNeg) (lim_C2 hc0 _)
    have hv_10 : vp_in (gi σ0 (c0 + 2) a1.toNatClampNeg) 6 := vp_in_iff.mpr ⟨by omega, by omega⟩
    refine ⟨hv_10, ?_⟩
    have hv_11 : vp_in (a1 + (1 : Int32)) 6 := vp_in_iff.mpr ⟨by omega, by omega⟩
    refine ⟨hv_11, ?_⟩
    have t_12 := XI_c1 m0 (id := (c0 + 2)) (k := (a1 + (1 : Int32)).toNatClampNeg) (lim_C2 hc0 _)
    have hv_13 : vp_in (gi σ0 (c0 + 2) (a1 + (1 : Int32)).toNatClampNeg) 6 := vp_in_iff.mpr ⟨by omega, by omega⟩
    refine ⟨hv_13, ?_⟩
    refine k_X1_gap hc0 m0   (fun r7 σ6 mσ6 cσ6 => ?_)
    obtain rfl := FX_nil cσ6
    refine ⟨?_, ?_⟩
    · intro q_14
      have w_15 := Int32.toInt_lt r7
      have w_16 := Int32.le_toInt r7
      try have t_17 : (r7 + (3 : Int32)).toInt = r7.toInt + 3 := i_add (x := r7) (y := (3 : Int32)) (by show (_ : Int) ≤ r7.toInt + 3; omega) (by show r7.toInt + 3 ≤ (_ : Int); omega)
      have w_18 := Int32.toInt_lt (gi σ0 (c0 + 3) (gi σ0 (c0 + 2) a1.toNatClampNeg).toNatClampNeg)
      have w_19 := Int32.le_toInt (gi σ0 (c0 + 3) (gi σ0 (c0 + 2) a1.toNatClampNeg).toNatClampNeg)
      have w_20 := Int32.toInt_lt (gi σ0 (c0 + 3) (gi σ0 (c0 + 2) (a1 + (1 : Int32)).toNatClampNeg).toNatClampNeg)
      have w_21 := Int32.le_toInt (gi σ0 (c0 + 3) (gi σ0 (c0 + 2) (a1 + (1 : Int32)).toNatClampNeg).toNatClampNeg)
      try have t_22 : ((gi σ0 (c0 + 3) (gi σ0 (c0 + 2) a1.toNatClampNeg).toNatClampNeg) - (gi σ0 (c0 + 3) (gi σ0 (c0 + 2) (a1 + (1 : Int32)).toNatClampNeg).toNatClampNeg)).toInt = (gi σ0 (c0 + 3) (gi σ0 (c0 + 2) a1.toNatClampNeg).toNatClampNeg).toInt - (gi σ0 (c0 + 3) (gi σ0 (c0 + 2) (a1 + (1 : Int32)).toNatClampNeg).toNatClampNeg).toInt := i_sub (x := (gi σ0 (c0 + 3) (gi σ0 (c0 + 2) a1.toNatClampNeg).toNatClampNeg)) (y := (gi σ0 (c0 + 3) (gi σ0 (c0 + 2) (a1 + (1 : Int32)).toNatClampNeg).toNatClampNeg)) (by show (_ : Int) ≤ (gi σ0 (c0 + 3) (gi σ0 (c0 + 2) a1.toNatClampNeg).toNatClampNeg).toInt - (gi σ0 (c0 + 3) (gi σ0 (c0 + 2) (a1 + (1 : Int32)).toNatClampNeg).toNatClampNeg).toInt; omega) (by show (gi σ0 (c0 + 3) (gi σ0 (c0 + 2) a1.toNatClampNeg).toNatClampNeg).toInt - (gi σ0 (c0 + 3) (gi σ0 (c0 + 2) (a1 + (1 : Int32)).toNatClampNeg).toNatClampNeg).toInt ≤ (_ : Int); omega)
      have b_23 : (r7 + (3 : Int32)).toInt ≤ ((gi σ0 (c0 + 3) (gi σ0 (c0 + 2) a1.toNatClampNeg).toNatClampNeg) - (gi σ0 (c0 + 3) (gi σ0 (c0 + 2) (a1 + (1 : Int32)).toNatClampNeg).toNatClampNeg)).toInt := Int32.le_iff_toInt_le.mp q_14
      have z_24 : (0 : Int32).toInt = 0 := rfl
      exact h9ret (0 : Int32) σ0 m0 f0 (by omega) (by omega)
    · intro q_14
      have w_25 := Int32.toInt_lt r7
      have w_26 := Int32.le_toInt r7
      try have t_27 : (r7 + (3 : Int32)).toInt = r7.toInt + 3 := i_add (x := r7) (y := (3 : Int32)) (by show (_ : Int) ≤ r7.toInt + 3; omega) (by show r7.toInt + 3 ≤ (_ : Int); omega)
      have w_28 := Int32.toInt_lt (gi σ0 (c0 + 3) (gi σ0 (c0 + 2) a1.toNatClampNeg).toNatClampNeg)
      have w_29 := Int32.le_toInt (gi σ0 (c0 + 3) (gi σ0 (c0 + 2) a1.toNatClampNeg).toNatClampNeg)
      have w_30 := Int32.toInt_lt (gi σ0 (c0 + 3) (gi σ0 (c0 + 2) (a1 + (1 : Int32)).toNatClampNeg).toNatClampNeg)
      have w_31 := Int32.le_toInt (gi σ0 (c0 + 3) (gi σ0 (c0 + 2) (a1 + (1 : Int32)).toNatClampNeg).toNatClampNeg)
      try have t_32 : ((gi σ0 (c0 + 3) (gi σ0 (c0 + 2) a1.toNatClampNeg).toNatClampNeg) - (gi σ0 (c0 + 3) (gi σ0 (c0 + 2) (a1 + (1 : Int32)).toNatClampNeg).toNatClampNeg)).toInt = (gi σ0 (c0 + 3) (gi σ0 (c0 + 2) a1.toNatClampNeg).toNatClampNeg).toInt - (gi σ0 (c0 + 3) (gi σ0 (c0 + 2) (a1 + (1 : Int32)).toNatClampNeg).toNatClampNeg).toInt := i_sub (x := (gi σ0 (c0 + 3) (gi σ0 (c0 + 2) a1.toNatClampNeg).toNatClampNeg)) (y := (gi σ0 (c0 + 3) (gi σ0 (c0 + 2) (a1 + (1 : Int32)).toNatClampNeg).toNatClampNeg)) (by show (_ : Int) ≤ (gi σ0 (c0 + 3) (gi σ0 (c0 + 2) a1.toNatClampNeg).toNatClampNeg).toInt - (gi σ0 (c0 + 3) (gi σ0 (c0 + 2) (a1 + (1 : Int32)).toNatClampNeg).toNatClampNeg).toInt; omega) (by show (gi σ0 (c0 + 3) (gi σ0 (c0 + 2) a1.toNatClampNeg).toNatClampNeg).toInt - (gi σ0 (c0 + 3) (gi σ0 (c0 + 2) (a1 + (1 : Int32)).toNatClampNeg).toNatClampNeg).toInt ≤ (_ : Int); omega)
      have b_33 : ¬ (r7 + (3 : Int32)).toInt ≤ ((gi σ0 (c0 + 3) (gi σ0 (c0 + 2) a1.toNatClampNeg).toNatClampNeg) - (gi σ0 (c0 + 3) (gi σ0 (c0 + 2) (a1 + (1 : Int32)).toNatClampNeg).toNatClampNeg)).toInt := fun h9 => q_14 (Int32.le_iff_toInt_le.mpr h9)
      have z_34 : (1 : Int32).toInt = 1 := rfl
      exact h9ret (1 : Int32) σ0 m0 f0 (by omega) (by omega)
set_option maxRecDepth 100000 in
set_option maxHeartbeats 4000000 in
theorem k_X7_strides {l : Launch} {V : Vx} {c0 : Nat} {a1 : Int32} {a2 : Nat} {a3 : Int32} {σ0 : Sg} {Qk : Int32 → Sg → Prop} {ci0 : Nat} (sc0 : ci0 = 7) (hc0 : kd c0 = (10 + ci0, 0)) (lc0 : c0 ∈ ids (V)) (ha2 : isC a2) (m0 : XI V σ0) (l_a3 : 0 ≤ a3.toInt) (u_a3 : a3.toInt ≤ 5) (h9ret : ∀ (r : Int32) (σ' : Sg), XI V σ' → FX (fun id => False) (fun _ _ => False) σ0 σ' → Qk r σ') : K_X7_strides l V c0 a1 a2 a3 σ0 Qk := by
  refine e_X7_strides (fun M hl hV hN C => ?_)
  subst hl
  subst hV
  have ic0 : isMc ci0 := by rw [sc0]; decide
  have gc0 := kdM_ge ic0 hc0
  have oa2 : hid (a2 = 1 ∨ a2 = 17 ∨ a2 = 33) := ha2
  have f0 : FX (fun id => False) (fun _ _ => False) σ0 σ0 := FX_rf
  refine s_X7_strides_0 C hN sc0 hc0 lc0 ha2 ?_
  refine k_X3_strides (show ci0 = 3 ∨ ci0 = 7 from by omega) hc0 lc0 ha2 m0  (by omega) (by omega) (fun r3 σ2 mσ2 cσ2 => ?_)
  obtain rfl := FX_nil cσ2
  refine k_X1_isPressedAt ha2 m0  (by omega) (by omega) (fun r5 σ4 mσ4 cσ4 plσ4 phσ4 => ?_)
  obtain rfl := FX_nil cσ4
  refine ⟨?_, ?_⟩
  · intro q_1
    have b_2 : r5.toInt = 0 := congrArg Int32.toInt q_1
    exact h9ret (r3 + (0 : Int32)) σ0 m0 f0
  · intro q_1
    have b_3 : ¬ r5.toInt = 0 := fun h9 => q_1 (Int32.toInt_inj.mp h9)
    exact h9ret (r3 + (2 : Int32)) σ0 m0 f0
set_option maxRecDepth 100000 in
set_option maxHeartbeats 4000000 in
theorem k_X10_strides {l : Launch} {V : Vx} {c0 : Nat} {a1 : Int32} {a2 : Nat} {a3 : Int32} {σ0 : Sg} {Qk : Int32 → Sg → Prop} {ci0 : Nat} (sc0 : ci0 = 10) (hc0 : kd c0 = (10 + ci0, 0)) (lc0 : c0 ∈ ids (V)) (ha2 : isC a2) (m0 : XI V σ0) (l_a3 : 0 ≤ a3.toInt) (u_a3 : a3.toInt ≤ 5) (h9ret : ∀ (r : Int32) (σ' : Sg), XI V σ' → FX (fun id => False) (fun _ _ => False) σ0 σ' → Qk r σ') : K_X10_strides l V c0 a1 a2 a3 σ0 Qk := by
  refine e_X10_strides (fun M hl hV hN C => ?_)
  subst hl
  subst hV
  have ic0 : isMc ci0 := by rw [sc0]; decide
  have gc0 := kdM_ge ic0 hc0
  have oa2 : hid (a2 = 1 ∨ a2 = 17 ∨ a2 = 33) := ha2
  have f0 : FX (fun id => False) (fun _ _ => False) σ0 σ0 := FX_rf
  have t_1 := XI_c1 m0 (id := a2) (k := 9) (lim_C0_9 ha2)
  have t_2 := XI_c1 m0 (id := c0) (k := 1) (lim_M0_1 ic0 hc0)
  refine s_X10_strides_0 C hN sc0 hc0 lc0 ha2 ?_
  refine k_X0_strides (show ci0 = 0 ∨ ci0 = 10 from by omega) hc0 lc0 ha2 m0  (by omega) (by omega) (fun r3 σ2 mσ2 cσ2 => ?_)
  obtain rfl := FX_nil cσ2
  have t_3 : ((4 : Int32) * (gi σ0 c0 1)).toInt = 4 * (gi σ0 c0 1).toInt := i_mull rfl (by omega) (by omega)
  have t_4 : ((gi σ0 a2 9) - (((gi σ0 a2 9) / (4 : Int32)) * (4 : Int32))).toInt = (gi σ0 a2 9).toInt % 4 := i_rem (by omega) (by decide +kernel) rfl
  have t_5 : (((4 : Int32) * (gi σ0 c0 1)) + ((gi σ0 a2 9) - (((gi σ0 a2 9) / (4 : Int32)) * (4 : Int32)))).toInt = ((4 : Int32) * (gi σ0 c0 1)).toInt + ((gi σ0 a2 9) - (((gi σ0 a2 9) / (4 : Int32)) * (4 : Int32))).toInt := i_add (x := ((4 : Int32) * (gi σ0 c0 1))) (y := ((gi σ0 a2 9) - (((gi σ0 a2 9) / (4 : Int32)) * (4 : Int32)))) (by show (_ : Int) ≤ ((4 : Int32) * (gi σ0 c0 1)).toInt + ((gi σ0 a2 9) - (((gi σ0 a2 9) / (4 : Int32)) * (4 : Int32))).toInt; omega) (by show ((4 : Int32) * (gi σ0 c0 1)).toInt + ((gi σ0 a2 9) - (((gi σ0 a2 9) / (4 : Int32)) * (4 : Int32))).toInt ≤ (_ : Int); omega)
  have hv_6 : vp_in (((4 : Int32) * (gi σ0 c0 1)) + ((gi σ0 a2 9) - (gi σ0 a2 9) / (4 : Int32) * (4 : Int32))) 24 := vp_in_iff.mpr ⟨by omega, by omega⟩
  refine ⟨hv_6, ?_⟩
  exact h9ret (r3 + (gi σ0 (a2 + 7) (((4 : Int32) * (gi σ0 c0 1)) + ((gi σ0 a2 9) - (gi σ0 a2 9) / (4 : Int32) * (4 : Int32))).toNatClampNeg)) σ0 m0 f0
theorem k_KD_strides {l : Launch} {V : Vx} {ci c0 : Nat} {a1 : Int32} {a2 : Nat} {a3 : Int32} {σ0 : Sg} {Qk : Int32 → Sg → Prop} (s : isMc ci) (h : kd c0 = (10 + ci, 0)) (lc : c0 ∈ ids V) (ha2 : isC a2) (m0 : XI V σ0) (l3 : 0 ≤ a3.toInt) (u3 : a3.toInt ≤ 5) (h9ret : ∀ (r : Int32) (σ' : Sg), XI V σ' → FX (fun id => False) (fun _ _ => False) σ0 σ' → Qk r σ') : KD_strides l V ci c0 a1 a2 a3 σ0 Qk := by
  refine ⟨fun e => ?_, fun e => ?_, fun e => ?_, fun e => ?_, fun e => ?_, fun e => ?_, fun e => ?_⟩
  · exact k_X0_strides (by omega) h lc ha2 m0 l3 u3 h9ret
  · exact k_X3_strides (by omega) h lc ha2 m0 l3 u3 h9ret
  · exact k_X4_strides (by omega) h lc ha2 m0 l3 u3 h9ret
  · exact k_X6_strides (by omega) h lc ha2 m0 l3 u3 h9ret
  · exact k_X7_strides (by omega) h lc ha2 m0 l3 u3 h9ret
  · exact k_X8_strides (by omega) h lc ha2 m0 l3 u3 h9ret
  · exact k_X10_strides (by omega) h lc ha2 m0 l3 u3 h9ret
set_option maxRecDepth 100000 in
set_option maxHeartbeats 4000000 in
theorem k_X1_paceAt {l : Launch} {V : Vx} {c0 : Nat} {a1 : Int32} {σ0 : Sg} {Qk : Int32 → Sg → Prop} (hc0 : isC c0) (m0 : XI V σ0) (nn_c0 : NN σ0 c0) (l_a1 : 0 ≤ a1.toInt) (u_a1 : a1.toInt ≤ 5) (pre0 : a1.toInt < (gi σ0 c0 3).toInt) (h9ret : ∀ (r : Int32) (σ' : Sg), XI V σ' → FX (fun id => id = c0 + 15) (fun _ _ => False) σ0 σ' → (NN σ' c0) → Qk r σ') : K_X1_paceAt l V c0 a1 σ0 Qk := by
  refine e_X1_paceAt (fun M hl hV hN C => ?_)
  subst hl
  subst hV
  have oc0 : hid (c0 = 1 ∨ c0 = 17 ∨ c0 = 33) := hc0
  have f0 : FX (fun id => id = c0 + 15) (fun _ _ => False) σ0 σ0 := FX_rf
  have t_1 := XI_c1 m0 (id := c0) (k := 1) (lim_C0_1 hc0)
  have t_2 := XI_c1 m0 (id := c0) (k := 3) (lim_C0_3 hc0)
  have t_3 := XI_c1 m0 (id := c0) (k := 9) (lim_C0_9 hc0)
  have ec9 := cl_eq (x := a1) (by omega)
  have eb9 := nn_c0.1 a1.toNatClampNeg (by omega)
  refine s_X1_paceAt_0 C hN hc0 ?_
  have hv_4 : vp_in a1 6 := vp_in_iff.mpr ⟨by omega, by omega⟩
  refine ⟨hv_4, ?_⟩
  intro v2 ev2
  have t_5 := XI_c1 m0 (id := (c0 + 2)) (k := a1.toNatClampNeg) (lim_C2 hc0 _)
  have t_6 : v2.toInt = (gi σ0 (c0 + 2) a1.toNatClampNeg).toInt := congrArg Int32.toInt ev2
  have z_7 : (0 : Int32).toInt = 0 := rfl
  have hv_8 : vp_in (0 : Int32) 6 := vp_in_iff.mpr ⟨by omega, by omega⟩
  refine ⟨hv_8, ?_⟩
  intro σ4 eσ4
  have mσ4 : XI (mV M) σ4 := by rw [eσ4]; exact XIs_n m0 (lim_C15 hc0 _)
  have fσ4 : FX (fun id => id = c0 + 15) (fun _ _ => False) σ0 σ4 := by rw [eσ4]; exact FX_si f0 (Or.inl (show c0 + 15 = c0 + 15 from rfl))
  have k_9 : (gi σ4 c0 1).toInt = (gi σ0 c0 1).toInt := by rw [eσ4]; exact congrArg Int32.toInt (gi_si_ne (Or.inl (by first | omega | (have uoc0 := un oc0; omega))))
  have k_10 : (gi σ4 c0 3).toInt = (gi σ0 c0 3).toInt := by rw [eσ4]; exact congrArg Int32.toInt (gi_si_ne (Or.inl (by first | omega | (have uoc0 := un oc0; omega))))
  have k_11 : (gi σ4 c0 9).toInt = (gi σ0 c0 9).toInt := by rw [eσ4]; exact congrArg Int32.toInt (gi_si_ne (Or.inl (by first | omega | (have uoc0 := un oc0; omega))))
  have nσ4_c0 : NN σ4 c0 := by rw [eσ4]; exact NN_si nn_c0 (by first | omega | (have uoc0 := un oc0; omega)) (fun h9 => absurd h9 (by first | omega | (have uoc0 := un oc0; omega)))
  have hv_12 : vp_in v2 6 := vp_in_iff.mpr ⟨by omega, by omega⟩
  have ec_13 := cl_eq (x := v2) (by omega)
  obtain ⟨μ6, ci6, eμ6, sμ6, hμ6, lμ6⟩ := XI_mow mσ4 hc0 (nσ4_c0.2 v2.toNatClampNeg (by omega))
  have gμ6 := kdM_ge sμ6 hμ6
  refine ⟨hv_12, μ6, ci6, eμ6, sμ6, hμ6, lμ6, ?_⟩
  have z_14 : (1 : Int32).toInt = 1 := rfl
  have hv_15 : vp_in (1 : Int32) 6 := vp_in_iff.mpr ⟨by omega, by omega⟩
  refine ⟨hv_15, ?_⟩
  intro σ8 eσ8
  have mσ8 : XI (mV M) σ8 := by rw [eσ8]; exact XIs_n mσ4 (lim_C15 hc0 _)
  have fσ8 : FX (fun id => id = c0 + 15) (fun _ _ => False) σ0 σ8 := by rw [eσ8]; exact FX_si fσ4 (Or.inl (show c0 + 15 = c0 + 15 from rfl))
  have k_16 : (gi σ8 c0 1).toInt = (gi σ4 c0 1).toInt := by rw [eσ8]; exact congrArg Int32.toInt (gi_si_ne (Or.inl (by first | omega | (have uoc0 := un oc0; omega))))
  have k_17 : (gi σ8 c0 3).toInt = (gi σ4 c0 3).toInt := by rw [eσ8]; exact congrArg Int32.toInt (gi_si_ne (Or.inl (by first | omega | (have uoc0 := un oc0; omega))))
  have k_18 : (gi σ8 c0 9).toInt = (gi σ4 c0 9).toInt := by rw [eσ8]; exact congrArg Int32.toInt (gi_si_ne (Or.inl (by first | omega | (have uoc0 := un oc0; omega))))
  have k_19 : (gi σ8 μ6 0).toInt = (gi σ4 μ6 0).toInt := by rw [eσ8]; exact congrArg Int32.toInt (gi_si_ne (Or.inl (by first | omega | (have uoc0 := un oc0; omega))))
  have nσ8_c0 : NN σ8 c0 := by rw [eσ8]; exact NN_si nσ4_c0 (by first | omega | (have uoc0 := un oc0; omega)) (fun h9 => absurd h9 (by first | omega | (have uoc0 := un oc0; omega)))
  have z_20 : (2 : Int32).toInt = 2 := rfl
  have hv_21 : vp_in (2 : Int32) 6 := vp_in_iff.mpr ⟨by omega, by omega⟩
  refine ⟨hv_21, ?_⟩
  intro σ10 eσ10
  have mσ10 : XI (mV M) σ10 := by rw [eσ10]; exact XIs_n mσ8 (lim_C15 hc0 _)
  have fσ10 : FX (fun id => id = c0 + 15) (fun _ _ => False) σ0 σ10 := by rw [eσ10]; exact FX_si fσ8 (Or.inl (show c0 + 15 = c0 + 15 from rfl))
  have k_22 : (gi σ10 c0 1).toInt = (gi σ8 c0 1).toInt := by rw [eσ10]; exact congrArg Int32.toInt (gi_si_ne (Or.inl (by first | omega | (have uoc0 := un oc0; omega))))
  have k_23 : (gi σ10 c0 3).toInt = (gi σ8 c0 3).toInt := by rw [eσ10]; exact congrArg Int32.toInt (gi_si_ne (Or.inl (by first | omega | (have uoc0 := un oc0; omega))))
  have k_24 : (gi σ10 c0 9).toInt = (gi σ8 c0 9).toInt := by rw [eσ10]; exact congrArg Int32.toInt (gi_si_ne (Or.inl (by first | omega | (have uoc0 := un oc0; omega))))
  have k_25 : (gi σ10 μ6 0).toInt = (gi σ8 μ6 0).toInt := by rw [eσ10]; exact congrArg Int32.toInt (gi_si_ne (Or.inl (by first | omega | (have uoc0 := un oc0; omega))))
  have nσ10_c0 : NN σ10 c0 := by rw [eσ10]; exact NN_si nσ8_c0 (by first | omega | (have uoc0 := un oc0; omega)) (fun h9 => absurd h9 (by first | omega | (have uoc0 := un oc0; omega)))
  refine ⟨hv_12, ?_⟩
  have z_26 : (3 : Int32).toInt = 3 := rfl
  have hv_27 : vp_in (3 : Int32) 6 := vp_in_iff.mpr ⟨by omega, by omega⟩
  refine ⟨hv_27, ?_⟩
  intro σ13 eσ13
  have mσ13 : XI (mV M) σ13 := by rw [eσ13]; exact XIs_n mσ10 (lim_C15 hc0 _)
  have fσ13 : FX (fun id => id = c0 + 15) (fun _ _ => False) σ0 σ13 := by rw [eσ13]; exact FX_si fσ10 (Or.inl (show c0 + 15 = c0 + 15 from rfl))
  have k_28 : (gi σ13 c0 1).toInt = (gi σ10 c0 1).toInt := by rw [eσ13]; exact congrArg Int32.toInt (gi_si_ne (Or.inl (by first | omega | (have uoc0 := un oc0; omega))))
  have k_29 : (gi σ13 c0 3).toInt = (gi σ10 c0 3).toInt := by rw [eσ13]; exact congrArg Int32.toInt (gi_si_ne (Or.inl (by first | omega | (have uoc0 := un oc0; omega))))
  have k_30 : (gi σ13 c0 9).toInt = (gi σ10 c0 9).toInt := by rw [eσ13]; exact congrArg Int32.toInt (gi_si_ne (Or.inl (by first | omega | (have uoc0 := un oc0; omega))))
  have k_31 : (gi σ13 μ6 0).toInt = (gi σ10 μ6 0).toInt := by rw [eσ13]; exact congrArg Int32.toInt (gi_si_ne (Or.inl (by first | omega | (have uoc0 := un oc0; omega))))
  have nσ13_c0 : NN σ13 c0 := by rw [eσ13]; exact NN_si nσ10_c0 (by first | omega | (have uoc0 := un oc0; omega)) (fun h9 => absurd h9 (by first | omega | (have uoc0 := un oc0; omega)))
  refine ⟨hv_12, ?_⟩
  have z_32 : (4 : Int32).toInt = 4 := rfl
  have hv_33 : vp_in (4 : Int32) 6 := vp_in_iff.mpr ⟨by omega, by omega⟩
  refine ⟨hv_33, ?_⟩
  intro σ16 eσ16
  have mσ16 : XI (mV M) σ16 := by rw [eσ16]; exact XIs_n mσ13 (lim_C15 hc0 _)
  have fσ16 : FX (fun id => id = c0 + 15) (fun _ _ => False) σ0 σ16 := by rw [eσ16]; exact FX_si fσ13 (Or.inl (show c0 + 15 = c0 + 15 from rfl))
  have k_34 : (gi σ16 c0 1).toInt = (gi σ13 c0 1).toInt := by rw [eσ16]; exact congrArg Int32.toInt (gi_si_ne (Or.inl (by first | omega | (have uoc0 := un oc0; omega))))
  have k_35 : (gi σ16 c0 3).toInt = (gi σ13 c0 3).toInt := by rw [eσ16]; exact congrArg Int32.toInt (gi_si_ne (Or.inl (by first | omega | (have uoc0 := un oc0; omega))))
  have k_36 : (gi σ16 c0 9).toInt = (gi σ13 c0 9).toInt := by rw [eσ16]; exact congrArg Int32.toInt (gi_si_ne (Or.inl (by first | omega | (have uoc0 := un oc0; omega))))
  have k_37 : (gi σ16 μ6 0).toInt = (gi σ13 μ6 0).toInt := by rw [eσ16]; exact congrArg Int32.toInt (gi_si_ne (Or.inl (by first | omega | (have uoc0 := un oc0; omega))))
  have nσ16_c0 : NN σ16 c0 := by rw [eσ16]; exact NN_si nσ13_c0 (by first | omega | (have uoc0 := un oc0; omega)) (fun h9 => absurd h9 (by first | omega | (have uoc0 := un oc0; omega)))
  have z_38 : (5 : Int32).toInt = 5 := rfl
  have hv_39 : vp_in (5 : Int32) 6 := vp_in_iff.mpr ⟨by omega, by omega⟩
  refine ⟨hv_39, ?_⟩
  intro σ18 eσ18
  have mσ18 : XI (mV M) σ18 := by rw [eσ18]; exact XIs_n mσ16 (lim_C15 hc0 _)
  have fσ18 : FX (fun id => id = c0 + 15) (fun _ _ => False) σ0 σ18 := by rw [eσ18]; exact FX_si fσ16 (Or.inl (show c0 + 15 = c0 + 15 from rfl))
  have k_40 : (gi σ18 c0 1).toInt = (gi σ16 c0 1).toInt := by rw [eσ18]; exact congrArg Int32.toInt (gi_si_ne (Or.inl (by first | omega | (have uoc0 := un oc0; omega))))
  have k_41 : (gi σ18 c0 3).toInt = (gi σ16 c0 3).toInt := by rw [eσ18]; exact congrArg Int32.toInt (gi_si_ne (Or.inl (by first | omega | (have uoc0 := un oc0; omega))))
  have k_42 : (gi σ18 c0 9).toInt = (gi σ16 c0 9).toInt := by rw [eσ18]; exact congrArg Int32.toInt (gi_si_ne (Or.inl (by first | omega | (have uoc0 := un oc0; omega))))
  have k_43 : (gi σ18 μ6 0).toInt = (gi σ16 μ6 0).toInt := by rw [eσ18]; exact congrArg Int32.toInt (gi_si_ne (Or.inl (by first | omega | (have uoc0 := un oc0; omega))))
  have nσ18_c0 : NN σ18 c0 := by rw [eσ18]; exact NN_si nσ16_c0 (by first | omega | (have uoc0 := un oc0; omega)) (fun h9 => absurd h9 (by first | omega | (have uoc0 := un oc0; omega)))
  obtain ⟨f19, ef19, hf19, lf19⟩ := (mσ18.2.1 _ hc0).1
  have gf19 : hid _ := kdF_ge hf19
  refine ⟨f19, ef19, hf19, lf19, ?_⟩
  refine k_X2_paceOf hf19 lf19 (kdC_15 hc0) (fxl (fxC_15 hc0)) mσ18  (by first | with_reducible assumption | with_reducible rfl | omega | assumption | rfl) (fun r21 σ20 mσ20 cσ20 => ?_)
  obtain rfl := FX_nil cσ20
  have t_44 := XI_c1 mσ18 (id := c0) (k := 1) (lim_C0_1 hc0)
  have t_45 := XI_c1 mσ18 (id := c0) (k := 3) (lim_C0_3 hc0)
  have t_46 := XI_c1 mσ18 (id := c0) (k := 9) (lim_C0_9 hc0)
  have t_47 := XI_c1 mσ18 (id := μ6) (k := 0) (lim_M0_0 sμ6 hμ6)
  exact h9ret r21 σ18 mσ18 fσ18 nσ18_c0
set_option maxRecDepth 100000 in
set_option maxHeartbeats 4000000 in
theorem k_X1_strideAt {l : Launch} {V : Vx} {c0 : Nat} {a1 : Int32} {σ0 : Sg} {Qk : Int32 → Sg → Prop} (hc0 : isC c0) (m0 : XI V σ0) (nn_c0 : NN σ0 c0) (l_a1 : 0 ≤ a1.toInt) (u_a1 : a1.toInt ≤ 5) (pre0 : a1.toInt < (gi σ0 c0 3).toInt) (h9ret : ∀ (r : Int32) (σ' : Sg), XI V σ' → FX (fun id => id = c0 + 15) (fun _ _ => False) σ0 σ' → (NN σ' c0) → Qk r σ') : K_X1_strideAt l V c0 a1 σ0 Qk := by
  refine e_X1_strideAt (fun M hl hV hN C => ?_)
  subst hl
  subst hV
  have oc0 : hid (c0 = 1 ∨ c0 = 17 ∨ c0 = 33) := hc0
  have f0 : FX (fun id => id = c0 + 15) (fun _ _ => False) σ0 σ0 := FX_rf
  have t_1 := XI_c1 m0 (id := c0) (k := 1) (lim_C0_1 hc0)
  have t_2 := XI_c1 m0 (id := c0) (k := 3) (lim_C0_3 hc0)
  have ec9 := cl_eq (x := a1) (by omega)
  have eb9 := nn_c0.1 a1.toNatClampNeg (by omega)
  refine s_X1_strideAt_0 C hN hc0 ?_
  have hv_3 : vp_in a1 6 := vp_in_iff.mpr ⟨by omega, by omega⟩
  refine ⟨hv_3, ?_⟩
  intro v2 ev2
  have t_4 := XI_c1 m0 (id := (c0 + 2)) (k := a1.toNatClampNeg) (lim_C2 hc0 _)
  have t_5 : v2.toInt = (gi σ0 (c0 + 2) a1.toNatClampNeg).toInt := congrArg Int32.toInt ev2
  have hv_6 : vp_in v2 6 := vp_in_iff.mpr ⟨by omega, by omega⟩
  have ec_7 := cl_eq (x := v2) (by omega)
  obtain ⟨μ4, ci4, eμ4, sμ4, hμ4, lμ4⟩ := XI_mow m0 hc0 (nn_c0.2 v2.toNatClampNeg (by omega))
  have gμ4 := kdM_ge sμ4 hμ4
  refine ⟨hv_6, μ4, ci4, eμ4, sμ4, hμ4, lμ4, ?_⟩
  refine k_X1_paceAt hc0 m0 nn_c0 (by omega) (by omega) (by first | with_reducible assumption | with_reducible rfl | omega | assumption | rfl) (fun r6 σ5 mσ5 cσ5 nσ5_c0 => ?_)
  have fσ5 : FX (fun id => id = c0 + 15) (fun _ _ => False) σ0 σ5 := FX_tr f0 cσ5 (fun x (h9 : x = c0 + 15) => (show x = c0 + 15 from h9)) (fun _ _ h9 => h9.elim)
  have k_8 : (gi σ5 c0 1).toInt = (gi σ0 c0 1).toInt := congrArg Int32.toInt (FX_i cσ5 (show ¬ (c0 = c0 + 15) from by first | omega | (have uoc0 := un oc0; omega)) id)
  have k_9 : (gi σ5 c0 3).toInt = (gi σ0 c0 3).toInt := congrArg Int32.toInt (FX_i cσ5 (show ¬ (c0 = c0 + 15) from by first | omega | (have uoc0 := un oc0; omega)) id)
  refine k_KD_strides sμ4 hμ4 lμ4 hc0 mσ5  (by omega) (by omega) (fun r8 σ7 mσ7 cσ7 => ?_)
  obtain rfl := FX_nil cσ7
  have t_10 := XI_c1 mσ5 (id := c0) (k := 1) (lim_C0_1 hc0)
  have t_11 := XI_c1 mσ5 (id := c0) (k := 3) (lim_C0_3 hc0)
  refine ⟨hv_6, ?_⟩
  refine ⟨?_, ?_⟩
  · intro q_12
    have w_13 := Int32.toInt_lt (gi σ5 (c0 + 4) v2.toNatClampNeg)
    have w_14 := Int32.le_toInt (gi σ5 (c0 + 4) v2.toNatClampNeg)
    have b_15 : ¬ (gi σ5 (c0 + 4) v2.toNatClampNeg).toInt = 0 := fun h9 => q_12 (Int32.toInt_inj.mp h9)
    exact h9ret r8 σ5 mσ5 fσ5 nσ5_c0
  · intro q_12
    have w_16 := Int32.toInt_lt (gi σ5 (c0 + 4) v2.toNatClampNeg)
    have w_17 := Int32.le_toInt (gi σ5 (c0 + 4) v2.toNatClampNeg)
    have b_18 : (gi σ5 (c0 + 4) v2.toNatClampNeg).toInt = 0 := congrArg Int32.toInt q_12
    exact h9ret (r8 / (2 : Int32)) σ5 mσ5 fσ5 nσ5_c0
set_option maxRecDepth 100000 in
set_option maxHeartbeats 4000000 in
theorem k_X1_roomAt {l : Launch} {V : Vx} {c0 : Nat} {a1 : Int32} {σ0 : Sg} {Qk : Int32 → Sg → Prop} (hc0 : isC c0) (m0 : XI V σ0) (l_a1 : 0 ≤ a1.toInt) (u_a1 : a1.toInt ≤ 5) (h9ret : ∀ (r : Int32) (σ' : Sg), XI V σ' → FX (fun id => False) (fun _ _ => False) σ0 σ' → Qk r σ') : K_X1_roomAt l V c0 a1 σ0 Qk := by
  refine e_X1_roomAt (fun M hl hV hN C => ?_)
  subst hl
  subst hV
  have oc0 : hid (c0 = 1 ∨ c0 = 17 ∨ c0 = 33) := hc0
  have T : ∀ n : Nat, (∀ (x2 : Int32) (x3 : Int32) (σ : Sg), XI (mV M) σ → FX (fun id => False) (fun _ _ => False) σ0 σ → (0 ≤ x2.toInt) → (x2.toInt ≤ 5) → 1 < n → PS M 54 [(0, .ref c0), (2, .int x2), (3, .int x3)] [] σ (0, 0)) := by
    intro n
    induction n with
    | zero => exact fun _ _ _ _ _ _ _ h8 => absurd h8 (Nat.not_lt_zero _)
    | succ n ih =>
      have ih54 := ih
      · intro x2 x3 σ mσ fσ lx2 ux2 hmu
        refine s_X1_roomAt_54 C hN hc0 ?_
        have hv_1 : vp_in x2 6 := vp_in_iff.mpr ⟨by omega, by omega⟩
        refine ⟨hv_1, ?_⟩
        have z_2 : (0 : Int32).toInt = 0 := rfl
        have w_3 := Int32.toInt_lt x3
        have w_4 := Int32.le_toInt x3
        have w_5 := Int32.toInt_lt (gi σ (c0 + 3) x2.toNatClampNeg)
        have w_6 := Int32.le_toInt (gi σ (c0 + 3) x2.toNatClampNeg)
        try have t_7 : (x3 - (gi σ (c0 + 3) x2.toNatClampNeg)).toInt = x3.toInt - (gi σ (c0 + 3) x2.toNatClampNeg).toInt := i_sub (x := x3) (y := (gi σ (c0 + 3) x2.toNatClampNeg)) (by show (_ : Int) ≤ x3.toInt - (gi σ (c0 + 3) x2.toNatClampNeg).toInt; omega) (by show x3.toInt - (gi σ (c0 + 3) x2.toNatClampNeg).toInt ≤ (_ : Int); omega)
        intro v2 ev2
        have t_8 := jmax_b (0 : Int32) (x3 - (gi σ (c0 + 3) x2.toNatClampNeg))
        have t_9 : v2.toInt = (jmax (0 : Int32) (x3 - (gi σ (c0 + 3) x2.toNatClampNeg))).toInt := congrArg Int32.toInt ev2
        exact h9ret v2 σ mσ fσ
  have U54 := T 9
  have f0 : FX (fun id => False) (fun _ _ => False) σ0 σ0 := FX_rf
  refine s_X1_roomAt_0 C hN hc0 ?_
  have hv_10 : vp_in a1 6 := vp_in_iff.mpr ⟨by omega, by omega⟩
  refine ⟨hv_10, ?_⟩
  intro v2 ev2
  have t_11 := XI_c1 m0 (id := (c0 + 2)) (k := a1.toNatClampNeg) (lim_C2 hc0 _)
  have t_12 : v2.toInt = (gi σ0 (c0 + 2) a1.toNatClampNeg).toInt := congrArg Int32.toInt ev2
  have hv_13 : vp_in v2 6 := vp_in_iff.mpr ⟨by omega, by omega⟩
  refine ⟨hv_13, ?_⟩
  refine ⟨hv_10, ?_⟩
  have w_14 := Int32.toInt_lt (gi σ0 (c0 + 3) v2.toNatClampNeg)
  have w_15 := Int32.le_toInt (gi σ0 (c0 + 3) v2.toNatClampNeg)
  have w_16 := Int32.toInt_lt (gi σ0 (c0 + 14) a1.toNatClampNeg)
  have w_17 := Int32.le_toInt (gi σ0 (c0 + 14) a1.toNatClampNeg)
  try have t_18 : ((gi σ0 (c0 + 3) v2.toNatClampNeg) + (gi σ0 (c0 + 14) a1.toNatClampNeg)).toInt = (gi σ0 (c0 + 3) v2.toNatClampNeg).toInt + (gi σ0 (c0 + 14) a1.toNatClampNeg).toInt := i_add (x := (gi σ0 (c0 + 3) v2.toNatClampNeg)) (y := (gi σ0 (c0 + 14) a1.toNatClampNeg)) (by show (_ : Int) ≤ (gi σ0 (c0 + 3) v2.toNatClampNeg).toInt + (gi σ0 (c0 + 14) a1.toNatClampNeg).toInt; omega) (by show (gi σ0 (c0 + 3) v2.toNatClampNeg).toInt + (gi σ0 (c0 + 14) a1.toNatClampNeg).toInt ≤ (_ : Int); omega)
  have z_19 : (9999 : Int32).toInt = 9999 := rfl
  intro v5 ev5
  have t_20 := jmin_b ((gi σ0 (c0 + 3) v2.toNatClampNeg) + (gi σ0 (c0 + 14) a1.toNatClampNeg)) (9999 : Int32)
  have t_21 : v5.toInt = (jmin ((gi σ0 (c0 + 3) v2.toNatClampNeg) + (gi σ0 (c0 + 14) a1.toNatClampNeg)) (9999 : Int32)).toInt := congrArg Int32.toInt ev5
  refine ⟨?_, ?_⟩
  · intro q_22
    have b_23 : a1.toInt ≤ 0 := Int32.le_iff_toInt_le.mp q_22
    have w_24 := Int32.toInt_lt v5
    have w_25 := Int32.le_toInt v5
    exact U54 v2 v5 σ0 m0 f0 (by omega) (by omega) (by omega)
  · intro q_22
    have b_26 : ¬ a1.toInt ≤ 0 := fun h9 => q_22 (Int32.le_iff_toInt_le.mpr h9)
    have t_27 : (a1 - (1 : Int32)).toInt = a1.toInt - 1 := i_sub (x := a1) (y := (1 : Int32)) (by show (_ : Int) ≤ a1.toInt - 1; omega) (by show a1.toInt - 1 ≤ (_ : Int); omega)
    have hv_28 : vp_in (a1 - (1 : Int32)) 6 := vp_in_iff.mpr ⟨by omega, by omega⟩
    refine ⟨hv_28, ?_⟩
    have t_29 := XI_c1 m0 (id := (c0 + 2)) (k := (a1 - (1 : Int32)).toNatClampNeg) (lim_C2 hc0 _)
    have hv_30 : vp_in (gi σ0 (c0 + 2) (a1 - (1 : Int32)).toNatClampNeg) 6 := vp_in_iff.mpr ⟨by omega, by omega⟩
    refine ⟨hv_30, ?_⟩
    refine k_X1_gap hc0 m0   (fun r10 σ9 mσ9 cσ9 => ?_)
    obtain rfl := FX_nil cσ9
    have w_31 := Int32.toInt_lt v5
    have w_32 := Int32.le_toInt v5
    have w_33 := Int32.toInt_lt (gi σ0 (c0 + 3) (gi σ0 (c0 + 2) (a1 - (1 : Int32)).toNatClampNeg).toNatClampNeg)
    have w_34 := Int32.le_toInt (gi σ0 (c0 + 3) (gi σ0 (c0 + 2) (a1 - (1 : Int32)).toNatClampNeg).toNatClampNeg)
    have w_35 := Int32.toInt_lt r10
    have w_36 := Int32.le_toInt r10
    try have t_37 : ((gi σ0 (c0 + 3) (gi σ0 (c0 + 2) (a1 - (1 : Int32)).toNatClampNeg).toNatClampNeg) - r10).toInt = (gi σ0 (c0 + 3) (gi σ0 (c0 + 2) (a1 - (1 : Int32)).toNatClampNeg).toNatClampNeg).toInt - r10.toInt := i_sub (x := (gi σ0 (c0 + 3) (gi σ0 (c0 + 2) (a1 - (1 : Int32)).toNatClampNeg).toNatClampNeg)) (y := r10) (by show (_ : Int) ≤ (gi σ0 (c0 + 3) (gi σ0 (c0 + 2) (a1 - (1 : Int32)).toNatClampNeg).toNatClampNeg).toInt - r10.toInt; omega) (by show (gi σ0 (c0 + 3) (gi σ0 (c0 + 2) (a1 - (1 : Int32)).toNatClampNeg).toNatClampNeg).toInt - r10.toInt ≤ (_ : Int); omega)
    intro v11 ev11
    have t_38 := jmin_b v5 ((gi σ0 (c0 + 3) (gi σ0 (c0 + 2) (a1 - (1 : Int32)).toNatClampNeg).toNatClampNeg) - r10)
    have t_39 : v11.toInt = (jmin v5 ((gi σ0 (c0 + 3) (gi σ0 (c0 + 2) (a1 - (1 : Int32)).toNatClampNeg).toNatClampNeg) - r10)).toInt := congrArg Int32.toInt ev11
    have w_40 := Int32.toInt_lt v11
    have w_41 := Int32.le_toInt v11
    exact U54 v2 v11 σ0 m0 f0 (by omega) (by omega) (by omega)
set_option maxRecDepth 100000 in
set_option maxHeartbeats 4000000 in
theorem k_X1_wears {l : Launch} {V : Vx} {c0 : Nat} {a1 : Int32} {a2 : Int32} {σ0 : Sg} {Qk : Sg → Prop} (hc0 : isC c0) (m0 : XI V σ0) (l_a1 : 0 ≤ a1.toInt) (u_a1 : a1.toInt ≤ 5) (h9ret : ∀ (σ' : Sg), XI V σ' → FX (fun id => id = c0 + 4 ∨ id = c0 + 5) (fun _ _ => False) σ0 σ' → Qk σ') : K_X1_wears l V c0 a1 a2 σ0 Qk := by
  refine e_X1_wears (fun M hl hV hN C => ?_)
  subst hl
  subst hV
  have oc0 : hid (c0 = 1 ∨ c0 = 17 ∨ c0 = 33) := hc0
  have f0 : FX (fun id => id = c0 + 4 ∨ id = c0 + 5) (fun _ _ => False) σ0 σ0 := FX_rf
  refine s_X1_wears_0 C hN hc0 ?_
  refine ⟨?_, ?_⟩
  · intro q_1
    have w_2 := Int32.toInt_lt a2
    have w_3 := Int32.le_toInt a2
    have b_4 : a2.toInt = 0 := congrArg Int32.toInt q_1
    have hv_5 : vp_in a1 6 := vp_in_iff.mpr ⟨by omega, by omega⟩
    refine ⟨hv_5, ?_⟩
    have z_6 : (0 : Int32).toInt = 0 := rfl
    have w_7 := Int32.toInt_lt (gi σ0 (c0 + 5) a1.toNatClampNeg)
    have w_8 := Int32.le_toInt (gi σ0 (c0 + 5) a1.toNatClampNeg)
    try have t_9 : ((gi σ0 (c0 + 5) a1.toNatClampNeg) - (2 : Int32)).toInt = (gi σ0 (c0 + 5) a1.toNatClampNeg).toInt - 2 := i_sub (x := (gi σ0 (c0 + 5) a1.toNatClampNeg)) (y := (2 : Int32)) (by show (_ : Int) ≤ (gi σ0 (c0 + 5) a1.toNatClampNeg).toInt - 2; omega) (by show (gi σ0 (c0 + 5) a1.toNatClampNeg).toInt - 2 ≤ (_ : Int); omega)
    intro v3 ev3
    have t_10 := jmax_b (0 : Int32) ((gi σ0 (c0 + 5) a1.toNatClampNeg) - (2 : Int32))
    have t_11 : v3.toInt = (jmax (0 : Int32) ((gi σ0 (c0 + 5) a1.toNatClampNeg) - (2 : Int32))).toInt := congrArg Int32.toInt ev3
    refine ⟨hv_5, ?_⟩
    intro σ5 eσ5
    have mσ5 : XI (mV M) σ5 := by rw [eσ5]; exact XIs_n m0 (lim_C5 hc0 _)
    have fσ5 : FX (fun id => id = c0 + 4 ∨ id = c0 + 5) (fun _ _ => False) σ0 σ5 := by rw [eσ5]; exact FX_si f0 (Or.inl (show c0 + 5 = c0 + 4 ∨ c0 + 5 = c0 + 5 from Or.inr (rfl)))
    exact h9ret σ5 mσ5 fσ5
  · intro q_1
    have w_12 := Int32.toInt_lt a2
    have w_13 := Int32.le_toInt a2
    have b_14 : ¬ a2.toInt = 0 := fun h9 => q_1 (Int32.toInt_inj.mp h9)
    have hv_15 : vp_in a1 6 := vp_in_iff.mpr ⟨by omega, by omega⟩
    refine ⟨hv_15, ?_⟩
    have z_16 : (0 : Int32).toInt = 0 := rfl
    have w_17 := Int32.toInt_lt (gi σ0 (c0 + 4) a1.toNatClampNeg)
    have w_18 := Int32.le_toInt (gi σ0 (c0 + 4) a1.toNatClampNeg)
    try have t_19 : ((gi σ0 (c0 + 4) a1.toNatClampNeg) - (1 : Int32)).toInt = (gi σ0 (c0 + 4) a1.toNatClampNeg).toInt - 1 := i_sub (x := (gi σ0 (c0 + 4) a1.toNatClampNeg)) (y := (1 : Int32)) (by show (_ : Int) ≤ (gi σ0 (c0 + 4) a1.toNatClampNeg).toInt - 1; omega) (by show (gi σ0 (c0 + 4) a1.toNatClampNeg).toInt - 1 ≤ (_ : Int); omega)
    intro v7 ev7
    have t_20 := jmax_b (0 : Int32) ((gi σ0 (c0 + 4) a1.toNatClampNeg) - (1 : Int32))
    have t_21 : v7.toInt = (jmax (0 : Int32) ((gi σ0 (c0 + 4) a1.toNatClampNeg) - (1 : Int32))).toInt := congrArg Int32.toInt ev7
    refine ⟨hv_15, ?_⟩
    intro σ9 eσ9
    have mσ9 : XI (mV M) σ9 := by rw [eσ9]; exact XIs_n m0 (lim_C4 hc0 _)
    have fσ9 : FX (fun id => id = c0 + 4 ∨ id = c0 + 5) (fun _ _ => False) σ0 σ9 := by rw [eσ9]; exact FX_si f0 (Or.inl (show c0 + 4 = c0 + 4 ∨ c0 + 4 = c0 + 5 from Or.inl (rfl)))
    refine ⟨hv_15, ?_⟩
    obtain ⟨f11, ef11, hf11, lf11⟩ := (mσ9.2.1 _ hc0).1
    have gf11 : hid _ := kdF_ge hf11
    refine ⟨f11, ef11, hf11, lf11, ?_⟩
    have z_22 : (99 : Int32).toInt = 99 := rfl
    have w_23 := Int32.toInt_lt (gi σ9 (c0 + 5) a1.toNatClampNeg)
    have w_24 := Int32.le_toInt (gi σ9 (c0 + 5) a1.toNatClampNeg)
    have w_25 := Int32.toInt_lt (gi σ9 f11 1)
    have w_26 := Int32.le_toInt (gi σ9 f11 1)
    try have t_27 : ((gi σ9 (c0 + 5) a1.toNatClampNeg) + (gi σ9 f11 1)).toInt = (gi σ9 (c0 + 5) a1.toNatClampNeg).toInt + (gi σ9 f11 1).toInt := i_add (x := (gi σ9 (c0 + 5) a1.toNatClampNeg)) (y := (gi σ9 f11 1)) (by show (_ : Int) ≤ (gi σ9 (c0 + 5) a1.toNatClampNeg).toInt + (gi σ9 f11 1).toInt; omega) (by show (gi σ9 (c0 + 5) a1.toNatClampNeg).toInt + (gi σ9 f11 1).toInt ≤ (_ : Int); omega)
    intro v12 ev12
    have t_28 := jmin_b (99 : Int32) ((gi σ9 (c0 + 5) a1.toNatClampNeg) + (gi σ9 f11 1))
    have t_29 : v12.toInt = (jmin (99 : Int32) ((gi σ9 (c0 + 5) a1.toNatClampNeg) + (gi σ9 f11 1))).toInt := congrArg Int32.toInt ev12
    refine ⟨hv_15, ?_⟩
    intro σ14 eσ14
    have mσ14 : XI (mV M) σ14 := by rw [eσ14]; exact XIs_n mσ9 (lim_C5 hc0 _)
    have fσ14 : FX (fun id => id = c0 + 4 ∨ id = c0 + 5) (fun _ _ => False) σ0 σ14 := by rw [eσ14]; exact FX_si fσ9 (Or.inl (show c0 + 5 = c0 + 4 ∨ c0 + 5 = c0 + 5 from Or.inr (rfl)))
    have k_30 : (gi σ14 f11 1).toInt = (gi σ9 f11 1).toInt := by rw [eσ14]; exact congrArg Int32.toInt (gi_si_ne (Or.inl (by first | omega | (have uoc0 := un oc0; have ugf11 := un gf11; omega))))
    exact h9ret σ14 mσ14 fσ14
set_option maxRecDepth 100000 in
set_option maxHeartbeats 4000000 in
theorem k_X1_goesMinute {l : Launch} {V : Vx} {c0 : Nat} {σ0 : Sg} {Qk : Int32 → Sg → Prop} (hc0 : isC c0) (m0 : XI V σ0) (nn_c0 : NN σ0 c0) (pre0 : (gi σ0 c0 9).toInt ≤ 19900) (h9ret : ∀ (r : Int32) (σ' : Sg), XI V σ' → FX (fun id => id = c0 + 14 ∨ id = c0 + 15 ∨ id = c0 + 3 ∨ id = c0 + 4 ∨ id = c0 + 5 ∨ id = c0 + 6) (fun id k => (id = c0 ∧ k = 9)) σ0 σ' → (NN σ' c0) → ((gi σ' c0 9).toInt = (gi σ0 c0 9).toInt + 1) → Qk r σ') : K_X1_goesMinute l V c0 σ0 Qk := by
  refine e_X1_goesMinute (fun M hl hV hN C => ?_)
  subst hl
  subst hV
  have oc0 : hid (c0 = 1 ∨ c0 = 17 ∨ c0 = 33) := hc0
  have T : ∀ n : Nat, (∀ (x1 : Int32) (σ : Sg), XI (mV M) σ → FX (fun id => id = c0 + 14 ∨ id = c0 + 15 ∨ id = c0 + 3 ∨ id = c0 + 4 ∨ id = c0 + 5 ∨ id = c0 + 6) (fun id k => (id = c0 ∧ k = 9)) σ0 σ → NN σ c0 → (0 ≤ x1.toInt) → (x1.toInt ≤ 6) → ((gi σ c0 9).toInt = (gi σ0 c0 9).toInt) → (7 - x1.toInt).toNat + 200 < n → PS M 2 [(0, .ref c0), (1, .int x1)] [] σ (0, 0)) ∧ (∀ (x1 : Int32) (x2 : Int32) (σ : Sg), XI (mV M) σ → FX (fun id => id = c0 + 14 ∨ id = c0 + 15 ∨ id = c0 + 3 ∨ id = c0 + 4 ∨ id = c0 + 5 ∨ id = c0 + 6) (fun id k => (id = c0 ∧ k = 9)) σ0 σ → NN σ c0 → (0 ≤ x2.toInt) → (x2.toInt ≤ 6) → ((gi σ c0 9).toInt = (gi σ0 c0 9).toInt) → (7 - x2.toInt).toNat * 10 + 5 < n → PS M 31 [(0, .ref c0), (1, .int x1), (2, .int x2)] [] σ (0, 0)) ∧ (∀ (x1 : Int32) (x2 : Int32) (x3 : Int32) (x4 : Int32) (σ : Sg), XI (mV M) σ → FX (fun id => id = c0 + 14 ∨ id = c0 + 15 ∨ id = c0 + 3 ∨ id = c0 + 4 ∨ id = c0 + 5 ∨ id = c0 + 6) (fun id k => (id = c0 ∧ k = 9)) σ0 σ → NN σ c0 → (0 ≤ x2.toInt) → (x2.toInt ≤ 5) → (0 ≤ x3.toInt) → (x3.toInt ≤ 5) → ((gi σ c0 9).toInt = (gi σ0 c0 9).toInt) → (7 - x2.toInt).toNat * 10 < n → PS M 95 [(0, .ref c0), (1, .int x1), (2, .int x2), (3, .int x3), (4, .int x4)] [] σ (0, 0)) := by
    intro n
    induction n with
    | zero => exact ⟨fun _ _ _ _ _ _ _ _ h8 => absurd h8 (Nat.not_lt_zero _), fun _ _ _ _ _ _ _ _ _ h8 => absurd h8 (Nat.not_lt_zero _), fun _ _ _ _ _ _ _ _ _ _ _ _ _ h8 => absurd h8 (Nat.not_lt_zero _)⟩
    | succ n ih =>
      obtain ⟨ih2, ih31, ih95⟩ := ih
      refine ⟨?_, ?_, ?_⟩
      · intro x1 σ mσ fσ nσ_c0 lx1 ux1 i0 hmu
        have k_1 : (gi σ c0 3).toInt = (gi σ0 c0 3).toInt := congrArg Int32.toInt (FX_i fσ (show ¬ (c0 = c0 + 14 ∨ c0 = c0 + 15 ∨ c0 = c0 + 3 ∨ c0 = c0 + 4 ∨ c0 = c0 + 5 ∨ c0 = c0 + 6) from by first | omega | (have uoc0 := un oc0; omega)) (show ¬ ((c0 = c0 ∧ 3 = 9)) from by first | omega | (have uoc0 := un oc0; omega)))
        have t_2 := XI_c1 mσ (id := c0) (k := 3) (lim_C0_3 hc0)
        have t_3 := XI_c1 mσ (id := c0) (k := 9) (lim_C0_9 hc0)
        refine s_X1_goesMinute_2 C hN hc0 ?_
        refine ⟨?_, ?_⟩
        · intro q_4
          have b_5 : (gi σ c0 3).toInt ≤ x1.toInt := Int32.le_iff_toInt_le.mp q_4
          have z_6 : (0 : Int32).toInt = 0 := rfl
          exact ih31 (0 : Int32) (0 : Int32) σ mσ fσ nσ_c0 (by omega) (by omega) (by first | with_reducible assumption | with_reducible rfl | omega | assumption | rfl) (by omega)
        · intro q_4
          have b_7 : ¬ (gi σ c0 3).toInt ≤ x1.toInt := fun h9 => q_4 (Int32.le_iff_toInt_le.mpr h9)
          refine k_X1_strideAt hc0 mσ nσ_c0 (by omega) (by omega) (by first | with_reducible assumption | with_reducible rfl | omega | assumption | rfl) (fun r3 σ2 mσ2 cσ2 nσ2_c0 => ?_)
          have fσ2 : FX (fun id => id = c0 + 14 ∨ id = c0 + 15 ∨ id = c0 + 3 ∨ id = c0 + 4 ∨ id = c0 + 5 ∨ id = c0 + 6) (fun id k => (id = c0 ∧ k = 9)) σ0 σ2 := FX_tr fσ cσ2 (fun x (h9 : x = c0 + 15) => (show x = c0 + 14 ∨ x = c0 + 15 ∨ x = c0 + 3 ∨ x = c0 + 4 ∨ x = c0 + 5 ∨ x = c0 + 6 from Or.inr (Or.inl (h9)))) (fun _ _ h9 => h9.elim)
          have k_8 : (gi σ2 c0 3).toInt = (gi σ c0 3).toInt := congrArg Int32.toInt (FX_i cσ2 (show ¬ (c0 = c0 + 15) from by first | omega | (have uoc0 := un oc0; omega)) id)
          have k_9 : (gi σ2 c0 9).toInt = (gi σ c0 9).toInt := congrArg Int32.toInt (FX_i cσ2 (show ¬ (c0 = c0 + 15) from by first | omega | (have uoc0 := un oc0; omega)) id)
          have hv_10 : vp_in x1 6 := vp_in_iff.mpr ⟨by omega, by omega⟩
          refine ⟨hv_10, ?_⟩
          intro σ5 eσ5
          have mσ5 : XI (mV M) σ5 := by rw [eσ5]; exact XIs_n mσ2 (lim_C14 hc0 _)
          have fσ5 : FX (fun id => id = c0 + 14 ∨ id = c0 + 15 ∨ id = c0 + 3 ∨ id = c0 + 4 ∨ id = c0 + 5 ∨ id = c0 + 6) (fun id k => (id = c0 ∧ k = 9)) σ0 σ5 := by rw [eσ5]; exact FX_si fσ2 (Or.inl (show c0 + 14 = c0 + 14 ∨ c0 + 14 = c0 + 15 ∨ c0 + 14 = c0 + 3 ∨ c0 + 14 = c0 + 4 ∨ c0 + 14 = c0 + 5 ∨ c0 + 14 = c0 + 6 from Or.inl (rfl)))
          have k_11 : (gi σ5 c0 3).toInt = (gi σ2 c0 3).toInt := by rw [eσ5]; exact congrArg Int32.toInt (gi_si_ne (Or.inl (by first | omega | (have uoc0 := un oc0; omega))))
          have k_12 : (gi σ5 c0 9).toInt = (gi σ2 c0 9).toInt := by rw [eσ5]; exact congrArg Int32.toInt (gi_si_ne (Or.inl (by first | omega | (have uoc0 := un oc0; omega))))
          have nσ5_c0 : NN σ5 c0 := by rw [eσ5]; exact NN_si nσ2_c0 (by first | omega | (have uoc0 := un oc0; omega)) (fun h9 => absurd h9 (by first | omega | (have uoc0 := un oc0; omega)))
          intro v6 ev6
          have t_13 : (x1 + (1 : Int32)).toInt = x1.toInt + 1 := i_add (x := x1) (y := (1 : Int32)) (by show (_ : Int) ≤ x1.toInt + 1; omega) (by show x1.toInt + 1 ≤ (_ : Int); omega)
          have t_14 : v6.toInt = (x1 + (1 : Int32)).toInt := congrArg Int32.toInt ev6
          exact ih2 v6 σ5 mσ5 fσ5 nσ5_c0 (by omega) (by omega) (by first | with_reducible assumption | with_reducible rfl | omega | assumption | rfl) (by omega)
      · intro x1 x2 σ mσ fσ nσ_c0 lx2 ux2 i0 hmu
        have k_15 : (gi σ c0 3).toInt = (gi σ0 c0 3).toInt := congrArg Int32.toInt (FX_i fσ (show ¬ (c0 = c0 + 14 ∨ c0 = c0 + 15 ∨ c0 = c0 + 3 ∨ c0 = c0 + 4 ∨ c0 = c0 + 5 ∨ c0 = c0 + 6) from by first | omega | (have uoc0 := un oc0; omega)) (show ¬ ((c0 = c0 ∧ 3 = 9)) from by first | omega | (have uoc0 := un oc0; omega)))
        have t_16 := XI_c1 mσ (id := c0) (k := 3) (lim_C0_3 hc0)
        have t_17 := XI_c1 mσ (id := c0) (k := 9) (lim_C0_9 hc0)
        refine s_X1_goesMinute_31 C hN hc0 ?_
        refine ⟨?_, ?_⟩
        · intro q_18
          have b_19 : (gi σ c0 3).toInt ≤ x2.toInt := Int32.le_iff_toInt_le.mp q_18
          intro σ2 eσ2
          have t_20 : ((gi σ c0 9) + (1 : Int32)).toInt = (gi σ c0 9).toInt + 1 := i_add (x := (gi σ c0 9)) (y := (1 : Int32)) (by show (_ : Int) ≤ (gi σ c0 9).toInt + 1; omega) (by show (gi σ c0 9).toInt + 1 ≤ (_ : Int); omega)
          have mσ2 : XI (mV M) σ2 := by rw [eσ2]; exact XIs_b mσ (lim_C0_9 hc0) (by omega) (by omega)
          have fσ2 : FX (fun id => id = c0 + 14 ∨ id = c0 + 15 ∨ id = c0 + 3 ∨ id = c0 + 4 ∨ id = c0 + 5 ∨ id = c0 + 6) (fun id k => (id = c0 ∧ k = 9)) σ0 σ2 := by rw [eσ2]; exact FX_si fσ (Or.inr (show (c0 = c0 ∧ 9 = 9) from ⟨rfl, rfl⟩))
          have k_21 : (gi σ2 c0 3).toInt = (gi σ c0 3).toInt := gk_r eσ2 rfl
          have k_22 : (gi σ2 c0 9).toInt = ((gi σ c0 9) + (1 : Int32)).toInt := by rw [eσ2]; exact congrArg Int32.toInt gi_si_eq
          have nσ2_c0 : NN σ2 c0 := by rw [eσ2]; exact NN_si nσ_c0 (by first | omega | (have uoc0 := un oc0; omega)) (fun _ => by decide +kernel)
          have w_23 := Int32.toInt_lt x1
          have w_24 := Int32.le_toInt x1
          exact h9ret x1 σ2 mσ2 fσ2 nσ2_c0 (by first | with_reducible assumption | with_reducible rfl | omega | assumption | rfl)
        · intro q_18
          have b_25 : ¬ (gi σ c0 3).toInt ≤ x2.toInt := fun h9 => q_18 (Int32.le_iff_toInt_le.mpr h9)
          have hv_26 : vp_in x2 6 := vp_in_iff.mpr ⟨by omega, by omega⟩
          refine ⟨hv_26, ?_⟩
          intro v4 ev4
          have t_27 := XI_c1 mσ (id := (c0 + 2)) (k := x2.toNatClampNeg) (lim_C2 hc0 _)
          have t_28 : v4.toInt = (gi σ (c0 + 2) x2.toNatClampNeg).toInt := congrArg Int32.toInt ev4
          have hv_29 : vp_in v4 6 := vp_in_iff.mpr ⟨by omega, by omega⟩
          refine ⟨hv_29, ?_⟩
          refine ⟨?_, ?_⟩
          · intro q_30
            have w_31 := Int32.toInt_lt (gi σ (c0 + 6) v4.toNatClampNeg)
            have w_32 := Int32.le_toInt (gi σ (c0 + 6) v4.toNatClampNeg)
            have b_33 : (gi σ (c0 + 6) v4.toNatClampNeg).toInt ≤ 0 := Int32.le_iff_toInt_le.mp q_30
            refine k_X1_roomAt hc0 mσ  (by omega) (by omega) (fun r8 σ7 mσ7 cσ7 => ?_)
            obtain rfl := FX_nil cσ7
            refine ⟨hv_26, ?_⟩
            refine ⟨?_, ?_⟩
            · intro q_34
              have w_35 := Int32.toInt_lt (gi σ (c0 + 14) x2.toNatClampNeg)
              have w_36 := Int32.le_toInt (gi σ (c0 + 14) x2.toNatClampNeg)
              have w_37 := Int32.toInt_lt r8
              have w_38 := Int32.le_toInt r8
              have b_39 : (gi σ (c0 + 14) x2.toNatClampNeg).toInt ≤ r8.toInt := Int32.le_iff_toInt_le.mp q_34
              have w_40 := Int32.toInt_lt x1
              have w_41 := Int32.le_toInt x1
              exact ih95 x1 x2 v4 r8 σ mσ fσ nσ_c0 (by omega) (by omega) (by omega) (by omega) (by first | with_reducible assumption | with_reducible rfl | omega | assumption | rfl) (by omega)
            · intro q_34
              have w_42 := Int32.toInt_lt (gi σ (c0 + 14) x2.toNatClampNeg)
              have w_43 := Int32.le_toInt (gi σ (c0 + 14) x2.toNatClampNeg)
              have w_44 := Int32.toInt_lt r8
              have w_45 := Int32.le_toInt r8
              have b_46 : ¬ (gi σ (c0 + 14) x2.toNatClampNeg).toInt ≤ r8.toInt := fun h9 => q_34 (Int32.le_iff_toInt_le.mpr h9)
              intro v11 ev11
              have w_47 := Int32.toInt_lt v11
              have w_48 := Int32.le_toInt v11
              exact ih95 v11 x2 v4 r8 σ mσ fσ nσ_c0 (by omega) (by omega) (by omega) (by omega) (by first | with_reducible assumption | with_reducible rfl | omega | assumption | rfl) (by omega)
          · intro q_30
            have w_49 := Int32.toInt_lt (gi σ (c0 + 6) v4.toNatClampNeg)
            have w_50 := Int32.le_toInt (gi σ (c0 + 6) v4.toNatClampNeg)
            have b_51 : ¬ (gi σ (c0 + 6) v4.toNatClampNeg).toInt ≤ 0 := fun h9 => q_30 (Int32.le_iff_toInt_le.mpr h9)
            refine ⟨hv_29, ?_⟩
            refine ⟨hv_29, ?_⟩
            intro σ14 eσ14
            have mσ14 : XI (mV M) σ14 := by rw [eσ14]; exact XIs_n mσ (lim_C6 hc0 _)
            have fσ14 : FX (fun id => id = c0 + 14 ∨ id = c0 + 15 ∨ id = c0 + 3 ∨ id = c0 + 4 ∨ id = c0 + 5 ∨ id = c0 + 6) (fun id k => (id = c0 ∧ k = 9)) σ0 σ14 := by rw [eσ14]; exact FX_si fσ (Or.inl (show c0 + 6 = c0 + 14 ∨ c0 + 6 = c0 + 15 ∨ c0 + 6 = c0 + 3 ∨ c0 + 6 = c0 + 4 ∨ c0 + 6 = c0 + 5 ∨ c0 + 6 = c0 + 6 from Or.inr (Or.inr (Or.inr (Or.inr (Or.inr (rfl)))))))
            have k_52 : (gi σ14 c0 3).toInt = (gi σ c0 3).toInt := by rw [eσ14]; exact congrArg Int32.toInt (gi_si_ne (Or.inl (by first | omega | (have uoc0 := un oc0; omega))))
            have k_53 : (gi σ14 c0 9).toInt = (gi σ c0 9).toInt := by rw [eσ14]; exact congrArg Int32.toInt (gi_si_ne (Or.inl (by first | omega | (have uoc0 := un oc0; omega))))
            have nσ14_c0 : NN σ14 c0 := by rw [eσ14]; exact NN_si nσ_c0 (by first | omega | (have uoc0 := un oc0; omega)) (fun h9 => absurd h9 (by first | omega | (have uoc0 := un oc0; omega)))
            have w_54 := Int32.toInt_lt x1
            have w_55 := Int32.le_toInt x1
            have z_56 : (0 : Int32).toInt = 0 := rfl
            exact ih95 x1 x2 v4 (0 : Int32) σ14 mσ14 fσ14 nσ14_c0 (by omega) (by omega) (by omega) (by omega) (by first | with_reducible assumption | with_reducible rfl | omega | assumption | rfl) (by omega)
      · intro x1 x2 x3 x4 σ mσ fσ nσ_c0 lx2 ux2 lx3 ux3 i0 hmu
        have k_57 : (gi σ c0 3).toInt = (gi σ0 c0 3).toInt := congrArg Int32.toInt (FX_i fσ (show ¬ (c0 = c0 + 14 ∨ c0 = c0 + 15 ∨ c0 = c0 + 3 ∨ c0 = c0 + 4 ∨ c0 = c0 + 5 ∨ c0 = c0 + 6) from by first | omega | (have uoc0 := un oc0; omega)) (show ¬ ((c0 = c0 ∧ 3 = 9)) from by first | omega | (have uoc0 := un oc0; omega)))
        have t_58 := XI_c1 mσ (id := c0) (k := 3) (lim_C0_3 hc0)
        have t_59 := XI_c1 mσ (id := c0) (k := 9) (lim_C0_9 hc0)
        refine s_X1_goesMinute_95 C hN hc0 ?_
        have hv_60 : vp_in x3 6 := vp_in_iff.mpr ⟨by omega, by omega⟩
        refine ⟨hv_60, ?_⟩
        refine ⟨hv_60, ?_⟩
        intro σ3 eσ3
        have mσ3 : XI (mV M) σ3 := by rw [eσ3]; exact XIs_n mσ (lim_C3 hc0 _)
        have fσ3 : FX (fun id => id = c0 + 14 ∨ id = c0 + 15 ∨ id = c0 + 3 ∨ id = c0 + 4 ∨ id = c0 + 5 ∨ id = c0 + 6) (fun id k => (id = c0 ∧ k = 9)) σ0 σ3 := by rw [eσ3]; exact FX_si fσ (Or.inl (show c0 + 3 = c0 + 14 ∨ c0 + 3 = c0 + 15 ∨ c0 + 3 = c0 + 3 ∨ c0 + 3 = c0 + 4 ∨ c0 + 3 = c0 + 5 ∨ c0 + 3 = c0 + 6 from Or.inr (Or.inr (Or.inl (rfl)))))
        have k_61 : (gi σ3 c0 3).toInt = (gi σ c0 3).toInt := by rw [eσ3]; exact congrArg Int32.toInt (gi_si_ne (Or.inl (by first | omega | (have uoc0 := un oc0; omega))))
        have k_62 : (gi σ3 c0 9).toInt = (gi σ c0 9).toInt := by rw [eσ3]; exact congrArg Int32.toInt (gi_si_ne (Or.inl (by first | omega | (have uoc0 := un oc0; omega))))
        have nσ3_c0 : NN σ3 c0 := by rw [eσ3]; exact NN_si nσ_c0 (by first | omega | (have uoc0 := un oc0; omega)) (fun h9 => absurd h9 (by first | omega | (have uoc0 := un oc0; omega)))
        refine ⟨?_, ?_⟩
        · intro q_63
          have w_64 := Int32.toInt_lt x4
          have w_65 := Int32.le_toInt x4
          have b_66 : x4.toInt ≤ 0 := Int32.le_iff_toInt_le.mp q_63
          have z_67 : (0 : Int32).toInt = 0 := rfl
          refine k_X1_wears hc0 mσ3  (by omega) (by omega) (fun σ5 mσ5 cσ5 => ?_)
          have fσ5 : FX (fun id => id = c0 + 14 ∨ id = c0 + 15 ∨ id = c0 + 3 ∨ id = c0 + 4 ∨ id = c0 + 5 ∨ id = c0 + 6) (fun id k => (id = c0 ∧ k = 9)) σ0 σ5 := FX_tr fσ3 cσ5 (fun x (h9 : x = c0 + 4 ∨ x = c0 + 5) => h9.elim (fun e9 => (show x = c0 + 14 ∨ x = c0 + 15 ∨ x = c0 + 3 ∨ x = c0 + 4 ∨ x = c0 + 5 ∨ x = c0 + 6 from Or.inr (Or.inr (Or.inr (Or.inl (e9)))))) (fun h9 => (show x = c0 + 14 ∨ x = c0 + 15 ∨ x = c0 + 3 ∨ x = c0 + 4 ∨ x = c0 + 5 ∨ x = c0 + 6 from Or.inr (Or.inr (Or.inr (Or.inr (Or.inl (h9)))))))) (fun _ _ h9 => h9.elim)
          have k_68 : (gi σ5 c0 3).toInt = (gi σ3 c0 3).toInt := congrArg Int32.toInt (FX_i cσ5 (show ¬ (c0 = c0 + 4 ∨ c0 = c0 + 5) from by first | omega | (have uoc0 := un oc0; omega)) id)
          have k_69 : (gi σ5 c0 9).toInt = (gi σ3 c0 9).toInt := congrArg Int32.toInt (FX_i cσ5 (show ¬ (c0 = c0 + 4 ∨ c0 = c0 + 5) from by first | omega | (have uoc0 := un oc0; omega)) id)
          have nσ5_c0 : NN σ5 c0 := NN_fx nσ3_c0 cσ5 (show ¬ (c0 = c0 + 4 ∨ c0 = c0 + 5) from by first | omega | (have uoc0 := un oc0; omega)) (show ¬ (c0 + 1 = c0 + 4 ∨ c0 + 1 = c0 + 5) from by first | omega | (have uoc0 := un oc0; omega)) (show ¬ (c0 + 2 = c0 + 4 ∨ c0 + 2 = c0 + 5) from by first | omega | (have uoc0 := un oc0; omega)) id id (fun _ => id) (fun _ => id)
          intro v6 ev6
          have t_70 : (x2 + (1 : Int32)).toInt = x2.toInt + 1 := i_add (x := x2) (y := (1 : Int32)) (by show (_ : Int) ≤ x2.toInt + 1; omega) (by show x2.toInt + 1 ≤ (_ : Int); omega)
          have t_71 : v6.toInt = (x2 + (1 : Int32)).toInt := congrArg Int32.toInt ev6
          have w_72 := Int32.toInt_lt x1
          have w_73 := Int32.le_toInt x1
          exact ih31 x1 v6 σ5 mσ5 fσ5 nσ5_c0 (by omega) (by omega) (by first | with_reducible assumption | with_reducible rfl | omega | assumption | rfl) (by omega)
        · intro q_63
          have w_74 := Int32.toInt_lt x4
          have w_75 := Int32.le_toInt x4
          have b_76 : ¬ x4.toInt ≤ 0 := fun h9 => q_63 (Int32.le_iff_toInt_le.mpr h9)
          have z_77 : (1 : Int32).toInt = 1 := rfl
          refine k_X1_wears hc0 mσ3  (by omega) (by omega) (fun σ7 mσ7 cσ7 => ?_)
          have fσ7 : FX (fun id => id = c0 + 14 ∨ id = c0 + 15 ∨ id = c0 + 3 ∨ id = c0 + 4 ∨ id = c0 + 5 ∨ id = c0 + 6) (fun id k => (id = c0 ∧ k = 9)) σ0 σ7 := FX_tr fσ3 cσ7 (fun x (h9 : x = c0 + 4 ∨ x = c0 + 5) => h9.elim (fun e9 => (show x = c0 + 14 ∨ x = c0 + 15 ∨ x = c0 + 3 ∨ x = c0 + 4 ∨ x = c0 + 5 ∨ x = c0 + 6 from Or.inr (Or.inr (Or.inr (Or.inl (e9)))))) (fun h9 => (show x = c0 + 14 ∨ x = c0 + 15 ∨ x = c0 + 3 ∨ x = c0 + 4 ∨ x = c0 + 5 ∨ x = c0 + 6 from Or.inr (Or.inr (Or.inr (Or.inr (Or.inl (h9)))))))) (fun _ _ h9 => h9.elim)
          have k_78 : (gi σ7 c0 3).toInt = (gi σ3 c0 3).toInt := congrArg Int32.toInt (FX_i cσ7 (show ¬ (c0 = c0 + 4 ∨ c0 = c0 + 5) from by first | omega | (have uoc0 := un oc0; omega)) id)
          have k_79 : (gi σ7 c0 9).toInt = (gi σ3 c0 9).toInt := congrArg Int32.toInt (FX_i cσ7 (show ¬ (c0 = c0 + 4 ∨ c0 = c0 + 5) from by first | omega | (have uoc0 := un oc0; omega)) id)
          have nσ7_c0 : NN σ7 c0 := NN_fx nσ3_c0 cσ7 (show ¬ (c0 = c0 + 4 ∨ c0 = c0 + 5) from by first | omega | (have uoc0 := un oc0; omega)) (show ¬ (c0 + 1 = c0 + 4 ∨ c0 + 1 = c0 + 5) from by first | omega | (have uoc0 := un oc0; omega)) (show ¬ (c0 + 2 = c0 + 4 ∨ c0 + 2 = c0 + 5) from by first | omega | (have uoc0 := un oc0; omega)) id id (fun _ => id) (fun _ => id)
          intro v8 ev8
          have t_80 : (x2 + (1 : Int32)).toInt = x2.toInt + 1 := i_add (x := x2) (y := (1 : Int32)) (by show (_ : Int) ≤ x2.toInt + 1; omega) (by show x2.toInt + 1 ≤ (_ : Int); omega)
          have t_81 : v8.toInt = (x2 + (1 : Int32)).toInt := congrArg Int32.toInt ev8
          have w_82 := Int32.toInt_lt x1
          have w_83 := Int32.le_toInt x1
          exact ih31 x1 v8 σ7 mσ7 fσ7 nσ7_c0 (by omega) (by omega) (by first | with_reducible assumption | with_reducible rfl | omega | assumption | rfl) (by omega)
  obtain ⟨U2, U31, U95⟩ := T 900
  have f0 : FX (fun id => id = c0 + 14 ∨ id = c0 + 15 ∨ id = c0 + 3 ∨ id = c0 + 4 ∨ id = c0 + 5 ∨ id = c0 + 6) (fun id k => (id = c0 ∧ k = 9)) σ0 σ0 := FX_rf
  have t_84 := XI_c1 m0 (id := c0) (k := 3) (lim_C0_3 hc0)
  have t_85 := XI_c1 m0 (id := c0) (k := 9) (lim_C0_9 hc0)
  refine s_X1_goesMinute_0 C hN hc0 ?_
  have z_86 : (0 : Int32).toInt = 0 := rfl
  exact U2 (0 : Int32) σ0 m0 f0 nn_c0 (by omega) (by omega) (by first | with_reducible assumption | with_reducible rfl | omega | assumption | rfl) (by omega)
theorem CQ_0 {σ σ' : Sg} {c a : Nat} : CQ σ σ' c a 0 := ⟨fun k h => absurd h (Nat.not_lt_zero _), fun j _ _ k h => absurd h (Nat.not_lt_zero _)⟩
/-- one round of the copying -/
theorem CQ_s {σ0 σ s1 s2 s3 s4 s5 s6 : Sg} {c a i : Nat} (hd : c + 16 ≤ a ∨ a + 16 ≤ c) (hA : ∀ j k, 1 ≤ j → j ≤ 6 → gi σ (a + j) k = gi σ0 (a + j) k ∧ gr σ (a + 1) k = gr σ0 (a + 1) k)
    (e1 : s1 = sr σ (c + 1) i (gr σ (a + 1) i)) (e2 : s2 = si s1 (c + 2) i (gi s1 (a + 2) i)) (e3 : s3 = si s2 (c + 3) i (gi s2 (a + 3) i)) (e4 : s4 = si s3 (c + 4) i (gi s3 (a + 4) i)) (e5 : s5 = si s4 (c + 5) i (gi s4 (a + 5) i)) (e6 : s6 = si s5 (c + 6) i (gi s5 (a + 6) i))
    (h : CQ σ0 σ c a i) : CQ σ0 s6 c a (i + 1) := by
  have r1 : ∀ b k, gr s6 b k = gr s1 b k := fun b k => by rw [e6, gr_si, e5, gr_si, e4, gr_si, e3, gr_si, e2, gr_si]
  have g1 : ∀ b k, gi s1 b k = gi σ b k := fun b k => by rw [e1, gi_sr]
  have g2 : ∀ b k, b ≠ c + 2 → gi s2 b k = gi σ b k := fun b k hb => by rw [e2, gi_si_ne (Or.inl hb), g1]
  have g3 : ∀ b k, b ≠ c + 2 → b ≠ c + 3 → gi s3 b k = gi σ b k := fun b k h2 h3 => by rw [e3, gi_si_ne (Or.inl h3), g2 b k h2]
  have g4 : ∀ b k, b ≠ c + 2 → b ≠ c + 3 → b ≠ c + 4 → gi s4 b k = gi σ b k := fun b k h2 h3 h4 => by rw [e4, gi_si_ne (Or.inl h4), g3 b k h2 h3]
  have g5 : ∀ b k, b ≠ c + 2 → b ≠ c + 3 → b ≠ c + 4 → b ≠ c + 5 → gi s5 b k = gi σ b k := fun b k h2 h3 h4 h5 => by rw [e5, gi_si_ne (Or.inl h5), g4 b k h2 h3 h4]
  have E2 : ∀ k, gi s6 (c + 2) k = if k = i then gi σ (a + 2) i else gi σ (c + 2) k := fun k => by
    rw [e6, gi_si_ne (Or.inl (by omega)), e5, gi_si_ne (Or.inl (by omega)), e4, gi_si_ne (Or.inl (by omega)), e3, gi_si_ne (Or.inl (by omega)), e2, gi_si, g1, g1]
    by_cases q : k = i
    · rw [if_pos ⟨rfl, q⟩, if_pos q]
    · rw [if_neg (fun z => q z.2), if_neg q]
  have E3 : ∀ k, gi s6 (c + 3) k = if k = i then gi σ (a + 3) i else gi σ (c + 3) k := fun k => by
    rw [e6, gi_si_ne (Or.inl (by omega)), e5, gi_si_ne (Or.inl (by omega)), e4, gi_si_ne (Or.inl (by omega)), e3, gi_si, g2 (a + 3) _ (by omega), g2 (c + 3) _ (by omega)]
    by_cases q : k = i
    · rw [if_pos ⟨rfl, q⟩, if_pos q]
    · rw [if_neg (fun z => q z.2), if_neg q]
  have E4 : ∀ k, gi s6 (c + 4) k = if k = i then gi σ (a + 4) i else gi σ (c + 4) k := fun k => by
    rw [e6, gi_si_ne (Or.inl (by omega)), e5, gi_si_ne (Or.inl (by omega)), e4, gi_si, g3 (a + 4) _ (by omega) (by omega), g3 (c + 4) _ (by omega) (by omega)]
    by_cases q : k = i
    · rw [if_pos ⟨rfl, q⟩, if_pos q]
    · rw [if_neg (fun z => q z.2), if_neg q]
  have E5 : ∀ k, gi s6 (c + 5) k = if k = i then gi σ (a + 5) i else gi σ (c + 5) k := fun k => by
    rw [e6, gi_si_ne (Or.inl (by omega)), e5, gi_si, g4 (a + 5) _ (by omega) (by omega) (by omega), g4 (c + 5) _ (by omega) (by omega) (by omega)]
    by_cases q : k = i
    · rw [if_pos ⟨rfl, q⟩, if_pos q]
    · rw [if_neg (fun z => q z.2), if_neg q]
  have E6 : ∀ k, gi s6 (c + 6) k = if k = i then gi σ (a + 6) i else gi σ (c + 6) k := fun k => by
    rw [e6, gi_si, g5 (a + 6) _ (by omega) (by omega) (by omega) (by omega), g5 (c + 6) _ (by omega) (by omega) (by omega) (by omega)]
    by_cases q : k = i
    · rw [if_pos ⟨rfl, q⟩, if_pos q]
    · rw [if_neg (fun z => q z.2), if_neg q]
  refine ⟨fun k hk => ?_, fun j j1 j2 k hk => ?_⟩
  · rw [r1, e1, gr_sr]
    by_cases q : k = i
    · rw [if_pos ⟨rfl, q⟩, q]; exact (hA 1 i (by decide +kernel) (by decide +kernel)).2
    · rw [if_neg (fun z => q z.2)]; exact h.1 k (by omega)
  · have hj : j = 2 ∨ j = 3 ∨ j = 4 ∨ j = 5 ∨ j = 6 := by omega
    have fin : ∀ {x : Int32}, x = (if k = i then gi σ (a + j) i else gi σ (c + j) k) → x = gi σ0 (a + j) k := fun {x} e => by
      rw [e]
      by_cases q : k = i
      · rw [if_pos q, q]; exact (hA j i (by omega) j2).1
      · rw [if_neg q]; exact h.2 j j1 j2 k (by omega)
    rcases hj with rfl | rfl | rfl | rfl | rfl
    · exact fin (E2 k)
    · exact fin (E3 k)
    · exact fin (E4 k)
    · exact fin (E5 k)
    · exact fin (E6 k)
theorem NN_cpy {V : Vx} {σ σ' : Sg} {c a : Nat} (ha : isC a) (x : XI V σ) (n : NN σ a) (p : CPY σ σ' c a) : NN σ' c := by
  obtain ⟨⟨p1, p3, -⟩, ⟨q1, q2⟩, -⟩ := p
  have b1 := XI_c1 x (lim_C0_1 ha)
  have b3 := XI_c1 x (lim_C0_3 ha)
  unfold NN
  rw [p1, p3]
  refine ⟨fun k hk => ?_, fun m hm => ?_⟩
  · rw [q2 2 (by decide +kernel) (by decide +kernel) k (by omega)]; exact n.1 k hk
  · rw [q1 m (by omega)]; exact n.2 m hm
set_option maxRecDepth 100000 in
set_option maxHeartbeats 4000000 in
theorem k_X1_becomes {l : Launch} {V : Vx} {c0 : Nat} {a1 : Nat} {σ0 : Sg} {Qk : Sg → Prop} (hc0 : isC c0) (ha1 : isC a1) (m0 : XI V σ0) (nn_a1 : NN σ0 a1) (pre0 : c0 + 16 ≤ a1 ∨ a1 + 16 ≤ c0) (h9ret : ∀ (σ' : Sg), XI V σ' → FX (fun id => id = c0 + 1 ∨ id = c0 + 2 ∨ id = c0 + 3 ∨ id = c0 + 4 ∨ id = c0 + 5 ∨ id = c0 + 6 ∨ id = c0 + 7) (fun id k => (id = c0 ∧ k = 1) ∨ (id = c0 ∧ k = 3) ∨ (id = c0 ∧ k = 9) ∨ (id = c0 ∧ k = 10) ∨ (id = c0 ∧ k = 11)) σ0 σ' → NN σ' a1 → NN σ' c0 → ((gi σ' c0 1).toInt = (gi σ0 a1 1).toInt) → ((gi σ' c0 3).toInt = (gi σ0 a1 3).toInt) → ((gi σ' c0 9).toInt = (gi σ0 a1 9).toInt) → CPY σ0 σ' c0 a1 → Qk σ') : K_X1_becomes l V c0 a1 σ0 Qk := by
  refine e_X1_becomes (fun M hl hV hN C => ?_)
  subst hl
  subst hV
  have oc0 : c0 = 1 ∨ c0 = 17 ∨ c0 = 33 := hc0
  have oa1 : a1 = 1 ∨ a1 = 17 ∨ a1 = 33 := ha1
  have xr : ∀ {σ : Sg} {k : Nat} {v : Option Nat}, XI (mV M) σ → (∀ μ, v = some μ → isMw (mV M) μ) → XI (mV M) (sr σ (c0 + 1) k v) := fun {σ k v} m h => XIs_r m (fun c hc e _ => by rcases hc with rfl | rfl | rfl <;> (exfalso; omega)) (fun c hc e μ q => h μ q) (fun e => by exfalso; omega) (fun q _ => by rw [kdC_1 hc0] at q; exact absurd (congrArg Prod.fst q) (by decide +kernel))
  have T : ∀ n : Nat, ∀ (i : Nat) (x2 : Int32) (σ : Sg), i ≤ 6 → x2.toInt = i → XI (mV M) σ → FX (fun id => id = c0 + 1 ∨ id = c0 + 2 ∨ id = c0 + 3 ∨ id = c0 + 4 ∨ id = c0 + 5 ∨ id = c0 + 6 ∨ id = c0 + 7) (fun id k => (id = c0 ∧ k = 1) ∨ (id = c0 ∧ k = 3) ∨ (id = c0 ∧ k = 9) ∨ (id = c0 ∧ k = 10) ∨ (id = c0 ∧ k = 11)) σ0 σ → (gi σ c0 1 = gi σ0 a1 1 ∧ gi σ c0 3 = gi σ0 a1 3 ∧ gi σ c0 9 = gi σ0 a1 9 ∧ gi σ c0 11 = gi σ0 a1 11 ∧ gr σ c0 10 = gr σ0 a1 10) → CQ σ0 σ c0 a1 i → 7 - i < n → PS M 42 [(0, .ref c0), (1, .ref a1), (2, .int x2)] [] σ (0, 0) := by
    intro n
    induction n with
    | zero => exact fun _ _ _ _ _ _ _ _ _ h8 => absurd h8 (Nat.not_lt_zero _)
    | succ n ih =>
      intro i x2 σ hi ex m f sc cq hmu
      have z6 : (6 : Int32).toInt = 6 := rfl
      refine s_X1_becomes_42 C hN hc0 ha1 ?_
      refine ⟨fun q => ?_, fun q => ?_⟩
      · have b := Int32.le_iff_toInt_le.mp q
        have hi6 : i = 6 := by omega
        subst hi6
        refine ⟨⟨by decide +kernel, by decide +kernel, by decide +kernel, by decide +kernel, by decide +kernel⟩, ?_⟩
        intro σ2 e2
        have f2 : FX (fun id => id = c0 + 1 ∨ id = c0 + 2 ∨ id = c0 + 3 ∨ id = c0 + 4 ∨ id = c0 + 5 ∨ id = c0 + 6 ∨ id = c0 + 7) (fun id k => (id = c0 ∧ k = 1) ∨ (id = c0 ∧ k = 3) ∨ (id = c0 ∧ k = 9) ∨ (id = c0 ∧ k = 10) ∨ (id = c0 ∧ k = 11)) σ0 σ2 := by rw [e2]; exact FX_sia f (show c0 + 7 = c0 + 1 ∨ c0 + 7 = c0 + 2 ∨ c0 + 7 = c0 + 3 ∨ c0 + 7 = c0 + 4 ∨ c0 + 7 = c0 + 5 ∨ c0 + 7 = c0 + 6 ∨ c0 + 7 = c0 + 7 from by omega)
        have m2 : XI (mV M) σ2 := by rw [e2]; exact XIs_sia m (fun k lo hi q => by rw [lim_C7 hc0 k] at q; cases q)
        have g2 : ∀ b k, b ≠ c0 + 7 → gi σ2 b k = gi σ b k := fun b k hb => by rw [e2, gi_sia, if_neg hb]
        have r2 : ∀ b k, gr σ2 b k = gr σ b k := fun b k => by rw [e2]; rfl
        have p : CPY σ0 σ2 c0 a1 := by
          refine ⟨⟨?_, ?_, ?_, ?_, ?_⟩, ⟨fun k hk => ?_, fun j j1 j2 k hk => ?_⟩, fun k hk => ?_⟩
          · rw [g2 _ _ (by omega)]; exact sc.1
          · rw [g2 _ _ (by omega)]; exact sc.2.1
          · rw [g2 _ _ (by omega)]; exact sc.2.2.1
          · rw [g2 _ _ (by omega)]; exact sc.2.2.2.1
          · rw [r2]; exact sc.2.2.2.2
          · rw [r2]; exact cq.1 k hk
          · rw [g2 _ _ (by omega)]; exact cq.2 j j1 j2 k hk
          · rw [e2, gi_sia, if_pos rfl]
            show va_cpy (σ.1 (a1 + 7)) (σ.1 (c0 + 7)) 0 0 24 k = _
            rw [cpy_in _ _ hk]
            exact FX_i f (show ¬ (a1 + 7 = c0 + 1 ∨ a1 + 7 = c0 + 2 ∨ a1 + 7 = c0 + 3 ∨ a1 + 7 = c0 + 4 ∨ a1 + 7 = c0 + 5 ∨ a1 + 7 = c0 + 6 ∨ a1 + 7 = c0 + 7) from by omega) (show ¬ ((a1 + 7 = c0 ∧ k = 1) ∨ (a1 + 7 = c0 ∧ k = 3) ∨ (a1 + 7 = c0 ∧ k = 9) ∨ (a1 + 7 = c0 ∧ k = 10) ∨ (a1 + 7 = c0 ∧ k = 11)) from by omega)
        exact h9ret σ2 m2 f2 (NN_fx nn_a1 f2 (show ¬ (a1 = c0 + 1 ∨ a1 = c0 + 2 ∨ a1 = c0 + 3 ∨ a1 = c0 + 4 ∨ a1 = c0 + 5 ∨ a1 = c0 + 6 ∨ a1 = c0 + 7) from by omega) (show ¬ (a1 + 1 = c0 + 1 ∨ a1 + 1 = c0 + 2 ∨ a1 + 1 = c0 + 3 ∨ a1 + 1 = c0 + 4 ∨ a1 + 1 = c0 + 5 ∨ a1 + 1 = c0 + 6 ∨ a1 + 1 = c0 + 7) from by omega) (show ¬ (a1 + 2 = c0 + 1 ∨ a1 + 2 = c0 + 2 ∨ a1 + 2 = c0 + 3 ∨ a1 + 2 = c0 + 4 ∨ a1 + 2 = c0 + 5 ∨ a1 + 2 = c0 + 6 ∨ a1 + 2 = c0 + 7) from by omega) (show ¬ ((a1 = c0 ∧ 1 = 1) ∨ (a1 = c0 ∧ 1 = 3) ∨ (a1 = c0 ∧ 1 = 9) ∨ (a1 = c0 ∧ 1 = 10) ∨ (a1 = c0 ∧ 1 = 11)) from by omega) (show ¬ ((a1 = c0 ∧ 3 = 1) ∨ (a1 = c0 ∧ 3 = 3) ∨ (a1 = c0 ∧ 3 = 9) ∨ (a1 = c0 ∧ 3 = 10) ∨ (a1 = c0 ∧ 3 = 11)) from by omega) (fun k => show ¬ ((a1 + 1 = c0 ∧ k = 1) ∨ (a1 + 1 = c0 ∧ k = 3) ∨ (a1 + 1 = c0 ∧ k = 9) ∨ (a1 + 1 = c0 ∧ k = 10) ∨ (a1 + 1 = c0 ∧ k = 11)) from by omega) (fun k => show ¬ ((a1 + 2 = c0 ∧ k = 1) ∨ (a1 + 2 = c0 ∧ k = 3) ∨ (a1 + 2 = c0 ∧ k = 9) ∨ (a1 + 2 = c0 ∧ k = 10) ∨ (a1 + 2 = c0 ∧ k = 11)) from by omega)) (NN_cpy ha1 m0 nn_a1 p) (congrArg Int32.toInt p.1.1) (congrArg Int32.toInt p.1.2.1) (congrArg Int32.toInt p.1.2.2.1) p
      · have b : ¬ (6 : Int32).toInt ≤ x2.toInt := fun h9 => q (Int32.le_iff_toInt_le.mpr h9)
        have hv : vp_in x2 6 := vp_in_iff.mpr ⟨by omega, by omega⟩
        have ec := cl_eq (x := x2) (by omega)
        have ei : x2.toNatClampNeg = i := by omega
        refine ⟨hv, hv, fun μ hμ => (m.2.1 a1 ha1).2 _ μ hμ, ?_⟩
        intro s1 e1
        refine ⟨hv, hv, ?_⟩
        intro s2 e2
        refine ⟨hv, hv, ?_⟩
        intro s3 e3
        refine ⟨hv, hv, ?_⟩
        intro s4 e4
        refine ⟨hv, hv, ?_⟩
        intro s5 e5
        refine ⟨hv, hv, ?_⟩
        intro s6 e6
        intro v7 e7
        rw [ei] at e1 e2 e3 e4 e5 e6
        have m1 : XI (mV M) s1 := by rw [e1]; exact xr m (fun μ hμ => (m.2.1 a1 ha1).2 _ μ hμ)
        have bl := XI_c1 m1 (k := i) (lim_C2 ha1 _)
        have m2 : XI (mV M) s2 := by rw [e2]; exact XIs_b m1 (lim_C2 hc0 _) bl.1 bl.2
        have m3 : XI (mV M) s3 := by rw [e3]; exact XIs_n m2 (lim_C3 hc0 _)
        have m4 : XI (mV M) s4 := by rw [e4]; exact XIs_n m3 (lim_C4 hc0 _)
        have m5 : XI (mV M) s5 := by rw [e5]; exact XIs_n m4 (lim_C5 hc0 _)
        have m6 : XI (mV M) s6 := by rw [e6]; exact XIs_n m5 (lim_C6 hc0 _)
        have f1 : FX (fun id => id = c0 + 1 ∨ id = c0 + 2 ∨ id = c0 + 3 ∨ id = c0 + 4 ∨ id = c0 + 5 ∨ id = c0 + 6 ∨ id = c0 + 7) (fun id k => (id = c0 ∧ k = 1) ∨ (id = c0 ∧ k = 3) ∨ (id = c0 ∧ k = 9) ∨ (id = c0 ∧ k = 10) ∨ (id = c0 ∧ k = 11)) σ0 s1 := by rw [e1]; exact FX_sr f (Or.inl (show c0 + 1 = c0 + 1 ∨ c0 + 1 = c0 + 2 ∨ c0 + 1 = c0 + 3 ∨ c0 + 1 = c0 + 4 ∨ c0 + 1 = c0 + 5 ∨ c0 + 1 = c0 + 6 ∨ c0 + 1 = c0 + 7 from by omega))
        have f2 : FX (fun id => id = c0 + 1 ∨ id = c0 + 2 ∨ id = c0 + 3 ∨ id = c0 + 4 ∨ id = c0 + 5 ∨ id = c0 + 6 ∨ id = c0 + 7) (fun id k => (id = c0 ∧ k = 1) ∨ (id = c0 ∧ k = 3) ∨ (id = c0 ∧ k = 9) ∨ (id = c0 ∧ k = 10) ∨ (id = c0 ∧ k = 11)) σ0 s2 := by rw [e2]; exact FX_si f1 (Or.inl (show c0 + 2 = c0 + 1 ∨ c0 + 2 = c0 + 2 ∨ c0 + 2 = c0 + 3 ∨ c0 + 2 = c0 + 4 ∨ c0 + 2 = c0 + 5 ∨ c0 + 2 = c0 + 6 ∨ c0 + 2 = c0 + 7 from by omega))
        have f3 : FX (fun id => id = c0 + 1 ∨ id = c0 + 2 ∨ id = c0 + 3 ∨ id = c0 + 4 ∨ id = c0 + 5 ∨ id = c0 + 6 ∨ id = c0 + 7) (fun id k => (id = c0 ∧ k = 1) ∨ (id = c0 ∧ k = 3) ∨ (id = c0 ∧ k = 9) ∨ (id = c0 ∧ k = 10) ∨ (id = c0 ∧ k = 11)) σ0 s3 := by rw [e3]; exact FX_si f2 (Or.inl (show c0 + 3 = c0 + 1 ∨ c0 + 3 = c0 + 2 ∨ c0 + 3 = c0 + 3 ∨ c0 + 3 = c0 + 4 ∨ c0 + 3 = c0 + 5 ∨ c0 + 3 = c0 + 6 ∨ c0 + 3 = c0 + 7 from by omega))
        have f4 : FX (fun id => id = c0 + 1 ∨ id = c0 + 2 ∨ id = c0 + 3 ∨ id = c0 + 4 ∨ id = c0 + 5 ∨ id = c0 + 6 ∨ id = c0 + 7) (fun id k => (id = c0 ∧ k = 1) ∨ (id = c0 ∧ k = 3) ∨ (id = c0 ∧ k = 9) ∨ (id = c0 ∧ k = 10) ∨ (id = c0 ∧ k = 11)) σ0 s4 := by rw [e4]; exact FX_si f3 (Or.inl (show c0 + 4 = c0 + 1 ∨ c0 + 4 = c0 + 2 ∨ c0 + 4 = c0 + 3 ∨ c0 + 4 = c0 + 4 ∨ c0 + 4 = c0 + 5 ∨ c0 + 4 = c0 + 6 ∨ c0 + 4 = c0 + 7 from by omega))
        have f5 : FX (fun id => id = c0 + 1 ∨ id = c0 + 2 ∨ id = c0 + 3 ∨ id = c0 + 4 ∨ id = c0 + 5 ∨ id = c0 + 6 ∨ id = c0 + 7) (fun id k => (id = c0 ∧ k = 1) ∨ (id = c0 ∧ k = 3) ∨ (id = c0 ∧ k = 9) ∨ (id = c0 ∧ k = 10) ∨ (id = c0 ∧ k = 11)) σ0 s5 := by rw [e5]; exact FX_si f4 (Or.inl (show c0 + 5 = c0 + 1 ∨ c0 + 5 = c0 + 2 ∨ c0 + 5 = c0 + 3 ∨ c0 + 5 = c0 + 4 ∨ c0 + 5 = c0 + 5 ∨ c0 + 5 = c0 + 6 ∨ c0 + 5 = c0 + 7 from by omega))
        have f6 : FX (fun id => id = c0 + 1 ∨ id = c0 + 2 ∨ id = c0 + 3 ∨ id = c0 + 4 ∨ id = c0 + 5 ∨ id = c0 + 6 ∨ id = c0 + 7) (fun id k => (id = c0 ∧ k = 1) ∨ (id = c0 ∧ k = 3) ∨ (id = c0 ∧ k = 9) ∨ (id = c0 ∧ k = 10) ∨ (id = c0 ∧ k = 11)) σ0 s6 := by rw [e6]; exact FX_si f5 (Or.inl (show c0 + 6 = c0 + 1 ∨ c0 + 6 = c0 + 2 ∨ c0 + 6 = c0 + 3 ∨ c0 + 6 = c0 + 4 ∨ c0 + 6 = c0 + 5 ∨ c0 + 6 = c0 + 6 ∨ c0 + 6 = c0 + 7 from by omega))
        have g6 : ∀ k, gi s6 c0 k = gi σ c0 k := fun k => by rw [e6, gi_si_ne (Or.inl (by omega)), e5, gi_si_ne (Or.inl (by omega)), e4, gi_si_ne (Or.inl (by omega)), e3, gi_si_ne (Or.inl (by omega)), e2, gi_si_ne (Or.inl (by omega)), e1, gi_sr]
        have r6 : gr s6 c0 10 = gr σ c0 10 := by rw [e6, gr_si, e5, gr_si, e4, gr_si, e3, gr_si, e2, gr_si, e1, gr_sr, if_neg (fun z => by omega)]
        have t7 : (x2 + (1 : Int32)).toInt = x2.toInt + 1 := i_add (x := x2) (y := (1 : Int32)) (by show (_ : Int) ≤ x2.toInt + 1; omega) (by show x2.toInt + 1 ≤ (_ : Int); omega)
        refine ih (i + 1) v7 s6 (by omega) (by rw [e7, t7]; omega) m6 f6 ⟨by rw [g6]; exact sc.1, by rw [g6]; exact sc.2.1, by rw [g6]; exact sc.2.2.1, by rw [g6]; exact sc.2.2.2.1, by rw [r6]; exact sc.2.2.2.2⟩ ?_ (by omega)
        exact CQ_s pre0 (fun j k j1 j2 => ⟨FX_i f (show ¬ (a1 + j = c0 + 1 ∨ a1 + j = c0 + 2 ∨ a1 + j = c0 + 3 ∨ a1 + j = c0 + 4 ∨ a1 + j = c0 + 5 ∨ a1 + j = c0 + 6 ∨ a1 + j = c0 + 7) from by omega) (show ¬ ((a1 + j = c0 ∧ k = 1) ∨ (a1 + j = c0 ∧ k = 3) ∨ (a1 + j = c0 ∧ k = 9) ∨ (a1 + j = c0 ∧ k = 10) ∨ (a1 + j = c0 ∧ k = 11)) from by omega), FX_r f (show ¬ (a1 + 1 = c0 + 1 ∨ a1 + 1 = c0 + 2 ∨ a1 + 1 = c0 + 3 ∨ a1 + 1 = c0 + 4 ∨ a1 + 1 = c0 + 5 ∨ a1 + 1 = c0 + 6 ∨ a1 + 1 = c0 + 7) from by omega) (show ¬ ((a1 + 1 = c0 ∧ k = 1) ∨ (a1 + 1 = c0 ∧ k = 3) ∨ (a1 + 1 = c0 ∧ k = 9) ∨ (a1 + 1 = c0 ∧ k = 10) ∨ (a1 + 1 = c0 ∧ k = 11)) from by omega)⟩) e1 e2 e3 e4 e5 e6 cq
  have U42 := T 9
  have f0 : FX (fun id => id = c0 + 1 ∨ id = c0 + 2 ∨ id = c0 + 3 ∨ id = c0 + 4 ∨ id = c0 + 5 ∨ id = c0 + 6 ∨ id = c0 + 7) (fun id k => (id = c0 ∧ k = 1) ∨ (id = c0 ∧ k = 3) ∨ (id = c0 ∧ k = 9) ∨ (id = c0 ∧ k = 10) ∨ (id = c0 ∧ k = 11)) σ0 σ0 := FX_rf
  refine s_X1_becomes_0 C hN hc0 ha1 ?_
  intro s1 e1
  intro s2 e2
  intro s3 e3
  have b1 := XI_c1 m0 (lim_C0_1 ha1)
  have m1 : XI (mV M) s1 := by rw [e1]; exact XIs_b m0 (lim_C0_1 hc0) b1.1 b1.2
  have b2 := XI_c1 m1 (lim_C0_3 ha1)
  have m2 : XI (mV M) s2 := by rw [e2]; exact XIs_b m1 (lim_C0_3 hc0) b2.1 b2.2
  have b3 := XI_c1 m2 (lim_C0_9 ha1)
  have m3 : XI (mV M) s3 := by rw [e3]; exact XIs_b m2 (lim_C0_9 hc0) b3.1 b3.2
  have f1 : FX (fun id => id = c0 + 1 ∨ id = c0 + 2 ∨ id = c0 + 3 ∨ id = c0 + 4 ∨ id = c0 + 5 ∨ id = c0 + 6 ∨ id = c0 + 7) (fun id k => (id = c0 ∧ k = 1) ∨ (id = c0 ∧ k = 3) ∨ (id = c0 ∧ k = 9) ∨ (id = c0 ∧ k = 10) ∨ (id = c0 ∧ k = 11)) σ0 s1 := by rw [e1]; exact FX_si f0 (Or.inr (show (c0 = c0 ∧ 1 = 1) ∨ (c0 = c0 ∧ 1 = 3) ∨ (c0 = c0 ∧ 1 = 9) ∨ (c0 = c0 ∧ 1 = 10) ∨ (c0 = c0 ∧ 1 = 11) from by omega))
  have f2 : FX (fun id => id = c0 + 1 ∨ id = c0 + 2 ∨ id = c0 + 3 ∨ id = c0 + 4 ∨ id = c0 + 5 ∨ id = c0 + 6 ∨ id = c0 + 7) (fun id k => (id = c0 ∧ k = 1) ∨ (id = c0 ∧ k = 3) ∨ (id = c0 ∧ k = 9) ∨ (id = c0 ∧ k = 10) ∨ (id = c0 ∧ k = 11)) σ0 s2 := by rw [e2]; exact FX_si f1 (Or.inr (show (c0 = c0 ∧ 3 = 1) ∨ (c0 = c0 ∧ 3 = 3) ∨ (c0 = c0 ∧ 3 = 9) ∨ (c0 = c0 ∧ 3 = 10) ∨ (c0 = c0 ∧ 3 = 11) from by omega))
  have f3 : FX (fun id => id = c0 + 1 ∨ id = c0 + 2 ∨ id = c0 + 3 ∨ id = c0 + 4 ∨ id = c0 + 5 ∨ id = c0 + 6 ∨ id = c0 + 7) (fun id k => (id = c0 ∧ k = 1) ∨ (id = c0 ∧ k = 3) ∨ (id = c0 ∧ k = 9) ∨ (id = c0 ∧ k = 10) ∨ (id = c0 ∧ k = 11)) σ0 s3 := by rw [e3]; exact FX_si f2 (Or.inr (show (c0 = c0 ∧ 9 = 1) ∨ (c0 = c0 ∧ 9 = 3) ∨ (c0 = c0 ∧ 9 = 9) ∨ (c0 = c0 ∧ 9 = 10) ∨ (c0 = c0 ∧ 9 = 11) from by omega))
  obtain ⟨f4, ef4, hf4, lf4⟩ := (m3.2.1 _ ha1).1
  refine ⟨f4, ef4, hf4, lf4, ?_⟩
  intro s5 e5
  intro s6 e6
  have m5 : XI (mV M) s5 := by
    rw [e5]
    exact XIs_r m3 (fun c hc e _ => ⟨f4, rfl, hf4, lf4⟩) (fun c hc e => by rcases hc with rfl | rfl | rfl <;> (exfalso; omega)) (fun e => by exfalso; omega) (fun q _ => by rw [kdC_0 hc0] at q; exact absurd (congrArg Prod.fst q) (by decide +kernel))
  have m6 : XI (mV M) s6 := by rw [e6]; exact XIs_n m5 (lim_C0_n hc0 _ (by decide +kernel))
  have g5 : FX (fun id => id = c0 + 1 ∨ id = c0 + 2 ∨ id = c0 + 3 ∨ id = c0 + 4 ∨ id = c0 + 5 ∨ id = c0 + 6 ∨ id = c0 + 7) (fun id k => (id = c0 ∧ k = 1) ∨ (id = c0 ∧ k = 3) ∨ (id = c0 ∧ k = 9) ∨ (id = c0 ∧ k = 10) ∨ (id = c0 ∧ k = 11)) σ0 s5 := by rw [e5]; exact FX_sr f3 (Or.inr (show (c0 = c0 ∧ 10 = 1) ∨ (c0 = c0 ∧ 10 = 3) ∨ (c0 = c0 ∧ 10 = 9) ∨ (c0 = c0 ∧ 10 = 10) ∨ (c0 = c0 ∧ 10 = 11) from by omega))
  have g6 : FX (fun id => id = c0 + 1 ∨ id = c0 + 2 ∨ id = c0 + 3 ∨ id = c0 + 4 ∨ id = c0 + 5 ∨ id = c0 + 6 ∨ id = c0 + 7) (fun id k => (id = c0 ∧ k = 1) ∨ (id = c0 ∧ k = 3) ∨ (id = c0 ∧ k = 9) ∨ (id = c0 ∧ k = 10) ∨ (id = c0 ∧ k = 11)) σ0 s6 := by rw [e6]; exact FX_si g5 (Or.inr (show (c0 = c0 ∧ 11 = 1) ∨ (c0 = c0 ∧ 11 = 3) ∨ (c0 = c0 ∧ 11 = 9) ∨ (c0 = c0 ∧ 11 = 10) ∨ (c0 = c0 ∧ 11 = 11) from by omega))
  have n1 : ∀ k, gi s1 a1 k = gi σ0 a1 k := fun k => by rw [e1, gi_si_ne (Or.inl (by omega))]
  have n2 : ∀ k, gi s2 a1 k = gi σ0 a1 k := fun k => by rw [e2, gi_si_ne (Or.inl (by omega)), n1]
  have n5 : ∀ k, gi s5 a1 k = gi σ0 a1 k := fun k => by rw [e5, gi_sr, e3, gi_si_ne (Or.inl (by omega)), n2]
  refine U42 0 (0 : Int32) s6 (by decide +kernel) rfl m6 g6 ⟨?_, ?_, ?_, ?_, ?_⟩ CQ_0 (by decide +kernel)
  · rw [e6, gi_si_ne (Or.inr (by decide +kernel)), e5, gi_sr, e3, gi_si_ne (Or.inr (by decide +kernel)), e2, gi_si_ne (Or.inr (by decide +kernel)), e1, gi_si_eq]
  · rw [e6, gi_si_ne (Or.inr (by decide +kernel)), e5, gi_sr, e3, gi_si_ne (Or.inr (by decide +kernel)), e2, gi_si_eq, n1]
  · rw [e6, gi_si_ne (Or.inr (by decide +kernel)), e5, gi_sr, e3, gi_si_eq, n2]
  · rw [e6, gi_si_eq, n5]
  · rw [e6, gr_si, e5, gr_sr, if_pos ⟨rfl, rfl⟩, ← ef4, e3, gr_si, e2, gr_si, e1, gr_si]
set_option maxRecDepth 100000 in
set_option maxHeartbeats 4000000 in
theorem k_X11_isMower {l : Launch} {V : Vx} {a1 : Int32} {σ0 : Sg} {Qk : Int32 → Sg → Prop} (m0 : XI V σ0) (h9ret : ∀ (r : Int32) (σ' : Sg), XI V σ' → FX (fun id => False) (fun _ _ => False) σ0 σ' → (0 ≤ r.toInt) → (r.toInt ≤ 1) → ((r.toInt = 1 ∧ 0 ≤ a1.toInt ∧ a1.toInt < (gi σ0 1 1).toInt) ∨ (r.toInt = 0 ∧ (a1.toInt < 0 ∨ (gi σ0 1 1).toInt ≤ a1.toInt))) → Qk r σ') : K_X11_isMower l V a1 σ0 Qk := by
  refine e_X11_isMower (fun M hl hV hN C => ?_)
  subst hl
  subst hV
  have f0 : FX (fun id => False) (fun _ _ => False) σ0 σ0 := FX_rf
  have t_1 := XI_c1 m0 (id := 1) (k := 1) (lim_C0_1 (Or.inl rfl))
  refine s_X11_isMower_0 C hN  ?_
  refine ⟨?_, ?_⟩
  · intro q_2
    have w_3 := Int32.toInt_lt a1
    have w_4 := Int32.le_toInt a1
    have b_5 : a1.toInt < 0 := Int32.lt_iff_toInt_lt.mp q_2
    have z_6 : (0 : Int32).toInt = 0 := rfl
    exact h9ret (0 : Int32) σ0 m0 f0 (by omega) (by omega) (by first | with_reducible assumption | with_reducible rfl | omega | assumption | rfl)
  · intro q_2
    have w_7 := Int32.toInt_lt a1
    have w_8 := Int32.le_toInt a1
    have b_9 : ¬ a1.toInt < 0 := fun h9 => q_2 (Int32.lt_iff_toInt_lt.mpr h9)
    refine ⟨?_, ?_⟩
    · intro q_10
      have b_11 : (gi σ0 1 1).toInt ≤ a1.toInt := Int32.le_iff_toInt_le.mp q_10
      have z_12 : (0 : Int32).toInt = 0 := rfl
      exact h9ret (0 : Int32) σ0 m0 f0 (by omega) (by omega) (by first | with_reducible assumption | with_reducible rfl | omega | assumption | rfl)
    · intro q_10
      have b_13 : ¬ (gi σ0 1 1).toInt ≤ a1.toInt := fun h9 => q_10 (Int32.le_iff_toInt_le.mpr h9)
      have z_14 : (1 : Int32).toInt = 1 := rfl
      exact h9ret (1 : Int32) σ0 m0 f0 (by omega) (by omega) (by first | with_reducible assumption | with_reducible rfl | omega | assumption | rfl)
set_option maxRecDepth 100000 in
set_option maxHeartbeats 4000000 in
theorem k_X11_looked {l : Launch} {V : Vx} {σ0 : Sg} {Qk : Int32 → Sg → Prop} (m0 : XI V σ0) (nn_1 : NN σ0 1) (pre0 : (gi σ0 1 9).toInt ≤ 9999) (h9ret : ∀ (r : Int32) (σ' : Sg), XI V σ' → FX (fun id => id = 34 ∨ id = 35 ∨ id = 36 ∨ id = 37 ∨ id = 38 ∨ id = 39 ∨ id = 40 ∨ id = 47 ∨ id = 48) (fun id k => (id = 33 ∧ k = 1) ∨ (id = 33 ∧ k = 3) ∨ (id = 33 ∧ k = 9) ∨ (id = 33 ∧ k = 10) ∨ (id = 33 ∧ k = 11)) σ0 σ' → (NN σ' 1) → Qk r σ') : K_X11_looked l V σ0 Qk := by
  refine e_X11_looked (fun M hl hV hN C => ?_)
  subst hl
  subst hV
  have T : ∀ n : Nat, (∀ (x1 : Int32) (x2 : Int32) (σ : Sg), XI (mV M) σ → FX (fun id => id = 34 ∨ id = 35 ∨ id = 36 ∨ id = 37 ∨ id = 38 ∨ id = 39 ∨ id = 40 ∨ id = 47 ∨ id = 48) (fun id k => (id = 33 ∧ k = 1) ∨ (id = 33 ∧ k = 3) ∨ (id = 33 ∧ k = 9) ∨ (id = 33 ∧ k = 10) ∨ (id = 33 ∧ k = 11)) σ0 σ → NN σ 1 → (0 ≤ x2.toInt) → (x2.toInt ≤ 8) → (9 - x2.toInt).toNat < n → PS M 21 [(0, .ref 0), (1, .int x1), (2, .int x2)] [] σ (0, 0)) := by
    intro n
    induction n with
    | zero => exact fun _ _ _ _ _ _ _ _ h8 => absurd h8 (Nat.not_lt_zero _)
    | succ n ih =>
      have ih21 := ih
      · intro x1 x2 σ mσ fσ nσ_1 lx2 ux2 hmu
        have k_1 : (gi σ 1 1).toInt = (gi σ0 1 1).toInt := congrArg Int32.toInt (FX_i fσ (show ¬ (1 = 34 ∨ 1 = 35 ∨ 1 = 36 ∨ 1 = 37 ∨ 1 = 38 ∨ 1 = 39 ∨ 1 = 40 ∨ 1 = 47 ∨ 1 = 48) from by omega) (show ¬ ((1 = 33 ∧ 1 = 1) ∨ (1 = 33 ∧ 1 = 3) ∨ (1 = 33 ∧ 1 = 9) ∨ (1 = 33 ∧ 1 = 10) ∨ (1 = 33 ∧ 1 = 11)) from by omega))
        have t_2 := XI_c1 mσ (id := 1) (k := 1) (lim_C0_1 (Or.inl rfl))
        have k_3 : (gi σ 1 9).toInt = (gi σ0 1 9).toInt := congrArg Int32.toInt (FX_i fσ (show ¬ (1 = 34 ∨ 1 = 35 ∨ 1 = 36 ∨ 1 = 37 ∨ 1 = 38 ∨ 1 = 39 ∨ 1 = 40 ∨ 1 = 47 ∨ 1 = 48) from by omega) (show ¬ ((1 = 33 ∧ 9 = 1) ∨ (1 = 33 ∧ 9 = 3) ∨ (1 = 33 ∧ 9 = 9) ∨ (1 = 33 ∧ 9 = 10) ∨ (1 = 33 ∧ 9 = 11)) from by omega))
        have t_4 := XI_c1 mσ (id := 1) (k := 9) (lim_C0_9 (Or.inl rfl))
        have k_5 : (gi σ 13 1).toInt = (gi σ0 13 1).toInt := congrArg Int32.toInt (FX_i fσ (show ¬ (13 = 34 ∨ 13 = 35 ∨ 13 = 36 ∨ 13 = 37 ∨ 13 = 38 ∨ 13 = 39 ∨ 13 = 40 ∨ 13 = 47 ∨ 13 = 48) from by omega) (show ¬ ((13 = 33 ∧ 1 = 1) ∨ (13 = 33 ∧ 1 = 3) ∨ (13 = 33 ∧ 1 = 9) ∨ (13 = 33 ∧ 1 = 10) ∨ (13 = 33 ∧ 1 = 11)) from by omega))
        have t_6 := XI_c1 mσ (id := 13) (k := 1) (lim_C12_1 (Or.inl rfl))
        refine s_X11_looked_21 C hN  ?_
        refine ⟨?_, ?_⟩
        · intro q_7
          have b_8 : (gi σ 13 1).toInt ≤ x2.toInt := Int32.le_iff_toInt_le.mp q_7
          have z_9 : (-5 : Int32).toInt = -5 := rfl
          exact h9ret (-5 : Int32) σ mσ fσ nσ_1
        · intro q_7
          have b_10 : ¬ (gi σ 13 1).toInt ≤ x2.toInt := fun h9 => q_7 (Int32.le_iff_toInt_le.mpr h9)
          have hv_11 : vp_in x2 8 := vp_in_iff.mpr ⟨by omega, by omega⟩
          refine ⟨hv_11, ?_⟩
          intro v3 ev3
          have t_12 := XI_c1 mσ (id := 14) (k := x2.toNatClampNeg) (lim_C13 (Or.inl rfl) _)
          have t_13 : v3.toInt = (gi σ 14 x2.toNatClampNeg).toInt := congrArg Int32.toInt ev3
          refine ⟨?_, ?_⟩
          · intro q_14
            have w_15 := Int32.toInt_lt x1
            have w_16 := Int32.le_toInt x1
            have b_17 : ¬ ((x1 >>> (v3 &&& (31 : Int32))) &&& (1 : Int32)).toInt = 0 := fun h9 => q_14 (Int32.toInt_inj.mp h9)
            intro v5 ev5
            have t_18 : (x2 + (1 : Int32)).toInt = x2.toInt + 1 := i_add (x := x2) (y := (1 : Int32)) (by show (_ : Int) ≤ x2.toInt + 1; omega) (by show x2.toInt + 1 ≤ (_ : Int); omega)
            have t_19 : v5.toInt = (x2 + (1 : Int32)).toInt := congrArg Int32.toInt ev5
            exact ih21 x1 v5 σ mσ fσ nσ_1 (by omega) (by omega) (by omega)
          · intro q_14
            have w_20 := Int32.toInt_lt x1
            have w_21 := Int32.le_toInt x1
            have b_22 : ((x1 >>> (v3 &&& (31 : Int32))) &&& (1 : Int32)).toInt = 0 := congrArg Int32.toInt q_14
            exact h9ret v3 σ mσ fσ nσ_1
  have U21 := T 90
  have f0 : FX (fun id => id = 34 ∨ id = 35 ∨ id = 36 ∨ id = 37 ∨ id = 38 ∨ id = 39 ∨ id = 40 ∨ id = 47 ∨ id = 48) (fun id k => (id = 33 ∧ k = 1) ∨ (id = 33 ∧ k = 3) ∨ (id = 33 ∧ k = 9) ∨ (id = 33 ∧ k = 10) ∨ (id = 33 ∧ k = 11)) σ0 σ0 := FX_rf
  have t_23 := XI_c1 m0 (id := 1) (k := 1) (lim_C0_1 (Or.inl rfl))
  have t_24 := XI_c1 m0 (id := 1) (k := 9) (lim_C0_9 (Or.inl rfl))
  have t_25 := XI_c1 m0 (id := 13) (k := 1) (lim_C12_1 (Or.inl rfl))
  refine s_X11_looked_0 C hN  ?_
  have z_26 : (1 : Int32).toInt = 1 := rfl
  refine k_X1_becomes (Or.inr (Or.inr rfl)) (Or.inl rfl) m0 nn_1 (by first | with_reducible assumption | with_reducible rfl | omega | assumption | rfl) (fun σ1 mσ1 cσ1 nσ1_1 nσ1_33 (pσ1_0 : (gi σ1 33 1).toInt = (gi σ0 1 1).toInt) (pσ1_1 : (gi σ1 33 3).toInt = (gi σ0 1 3).toInt) (pσ1_2 : (gi σ1 33 9).toInt = (gi σ0 1 9).toInt) (pσ1_3 : CPY σ0 σ1 33 1) => ?_)
  have fσ1 : FX (fun id => id = 34 ∨ id = 35 ∨ id = 36 ∨ id = 37 ∨ id = 38 ∨ id = 39 ∨ id = 40 ∨ id = 47 ∨ id = 48) (fun id k => (id = 33 ∧ k = 1) ∨ (id = 33 ∧ k = 3) ∨ (id = 33 ∧ k = 9) ∨ (id = 33 ∧ k = 10) ∨ (id = 33 ∧ k = 11)) σ0 σ1 := FX_tr f0 cσ1 (fun x (h9 : x = 34 ∨ x = 35 ∨ x = 36 ∨ x = 37 ∨ x = 38 ∨ x = 39 ∨ x = 40) => h9.elim (fun e9 => (show x = 34 ∨ x = 35 ∨ x = 36 ∨ x = 37 ∨ x = 38 ∨ x = 39 ∨ x = 40 ∨ x = 47 ∨ x = 48 from Or.inl (e9))) (fun h9 => h9.elim (fun e9 => (show x = 34 ∨ x = 35 ∨ x = 36 ∨ x = 37 ∨ x = 38 ∨ x = 39 ∨ x = 40 ∨ x = 47 ∨ x = 48 from Or.inr (Or.inl (e9)))) (fun h9 => h9.elim (fun e9 => (show x = 34 ∨ x = 35 ∨ x = 36 ∨ x = 37 ∨ x = 38 ∨ x = 39 ∨ x = 40 ∨ x = 47 ∨ x = 48 from Or.inr (Or.inr (Or.inl (e9))))) (fun h9 => h9.elim (fun e9 => (show x = 34 ∨ x = 35 ∨ x = 36 ∨ x = 37 ∨ x = 38 ∨ x = 39 ∨ x = 40 ∨ x = 47 ∨ x = 48 from Or.inr (Or.inr (Or.inr (Or.inl (e9)))))) (fun h9 => h9.elim (fun e9 => (show x = 34 ∨ x = 35 ∨ x = 36 ∨ x = 37 ∨ x = 38 ∨ x = 39 ∨ x = 40 ∨ x = 47 ∨ x = 48 from Or.inr (Or.inr (Or.inr (Or.inr (Or.inl (e9))))))) (fun h9 => h9.elim (fun e9 => (show x = 34 ∨ x = 35 ∨ x = 36 ∨ x = 37 ∨ x = 38 ∨ x = 39 ∨ x = 40 ∨ x = 47 ∨ x = 48 from Or.inr (Or.inr (Or.inr (Or.inr (Or.inr (Or.inl (e9)))))))) (fun h9 => (show x = 34 ∨ x = 35 ∨ x = 36 ∨ x = 37 ∨ x = 38 ∨ x = 39 ∨ x = 40 ∨ x = 47 ∨ x = 48 from Or.inr (Or.inr (Or.inr (Or.inr (Or.inr (Or.inr (Or.inl (h9))))))))))))))) (fun x k (h9 : (x = 33 ∧ k = 1) ∨ (x = 33 ∧ k = 3) ∨ (x = 33 ∧ k = 9) ∨ (x = 33 ∧ k = 10) ∨ (x = 33 ∧ k = 11)) => (show (x = 34 ∨ x = 35 ∨ x = 36 ∨ x = 37 ∨ x = 38 ∨ x = 39 ∨ x = 40 ∨ x = 47 ∨ x = 48) ∨ ((x = 33 ∧ k = 1) ∨ (x = 33 ∧ k = 3) ∨ (x = 33 ∧ k = 9) ∨ (x = 33 ∧ k = 10) ∨ (x = 33 ∧ k = 11)) from h9.elim (fun e9 => Or.inr (show (x = 33 ∧ k = 1) ∨ (x = 33 ∧ k = 3) ∨ (x = 33 ∧ k = 9) ∨ (x = 33 ∧ k = 10) ∨ (x = 33 ∧ k = 11) from Or.inl (e9))) (fun h9 => h9.elim (fun e9 => Or.inr (show (x = 33 ∧ k = 1) ∨ (x = 33 ∧ k = 3) ∨ (x = 33 ∧ k = 9) ∨ (x = 33 ∧ k = 10) ∨ (x = 33 ∧ k = 11) from Or.inr (Or.inl (e9)))) (fun h9 => h9.elim (fun e9 => Or.inr (show (x = 33 ∧ k = 1) ∨ (x = 33 ∧ k = 3) ∨ (x = 33 ∧ k = 9) ∨ (x = 33 ∧ k = 10) ∨ (x = 33 ∧ k = 11) from Or.inr (Or.inr (Or.inl (e9))))) (fun h9 => h9.elim (fun e9 => Or.inr (show (x = 33 ∧ k = 1) ∨ (x = 33 ∧ k = 3) ∨ (x = 33 ∧ k = 9) ∨ (x = 33 ∧ k = 10) ∨ (x = 33 ∧ k = 11) from Or.inr (Or.inr (Or.inr (Or.inl (e9)))))) (fun h9 => Or.inr (show (x = 33 ∧ k = 1) ∨ (x = 33 ∧ k = 3) ∨ (x = 33 ∧ k = 9) ∨ (x = 33 ∧ k = 10) ∨ (x = 33 ∧ k = 11) from Or.inr (Or.inr (Or.inr (Or.inr (h9)))))))))))
  have k_27 : (gi σ1 1 1).toInt = (gi σ0 1 1).toInt := congrArg Int32.toInt (FX_i cσ1 (show ¬ (1 = 34 ∨ 1 = 35 ∨ 1 = 36 ∨ 1 = 37 ∨ 1 = 38 ∨ 1 = 39 ∨ 1 = 40) from by omega) (show ¬ ((1 = 33 ∧ 1 = 1) ∨ (1 = 33 ∧ 1 = 3) ∨ (1 = 33 ∧ 1 = 9) ∨ (1 = 33 ∧ 1 = 10) ∨ (1 = 33 ∧ 1 = 11)) from by omega))
  have k_28 : (gi σ1 1 9).toInt = (gi σ0 1 9).toInt := congrArg Int32.toInt (FX_i cσ1 (show ¬ (1 = 34 ∨ 1 = 35 ∨ 1 = 36 ∨ 1 = 37 ∨ 1 = 38 ∨ 1 = 39 ∨ 1 = 40) from by omega) (show ¬ ((1 = 33 ∧ 9 = 1) ∨ (1 = 33 ∧ 9 = 3) ∨ (1 = 33 ∧ 9 = 9) ∨ (1 = 33 ∧ 9 = 10) ∨ (1 = 33 ∧ 9 = 11)) from by omega))
  have k_29 : (gi σ1 13 1).toInt = (gi σ0 13 1).toInt := congrArg Int32.toInt (FX_i cσ1 (show ¬ (13 = 34 ∨ 13 = 35 ∨ 13 = 36 ∨ 13 = 37 ∨ 13 = 38 ∨ 13 = 39 ∨ 13 = 40) from by omega) (show ¬ ((13 = 33 ∧ 1 = 1) ∨ (13 = 33 ∧ 1 = 3) ∨ (13 = 33 ∧ 1 = 9) ∨ (13 = 33 ∧ 1 = 10) ∨ (13 = 33 ∧ 1 = 11)) from by omega))
  refine k_X1_goesMinute (Or.inr (Or.inr rfl)) mσ1 nσ1_33 (by first | with_reducible assumption | with_reducible rfl | omega | assumption | rfl) (fun r3 σ2 mσ2 cσ2 nσ2_33 (pσ2_0 : (gi σ2 33 9).toInt = (gi σ1 33 9).toInt + 1) => ?_)
  have fσ2 : FX (fun id => id = 34 ∨ id = 35 ∨ id = 36 ∨ id = 37 ∨ id = 38 ∨ id = 39 ∨ id = 40 ∨ id = 47 ∨ id = 48) (fun id k => (id = 33 ∧ k = 1) ∨ (id = 33 ∧ k = 3) ∨ (id = 33 ∧ k = 9) ∨ (id = 33 ∧ k = 10) ∨ (id = 33 ∧ k = 11)) σ0 σ2 := FX_tr fσ1 cσ2 (fun x (h9 : x = 47 ∨ x = 48 ∨ x = 36 ∨ x = 37 ∨ x = 38 ∨ x = 39) => h9.elim (fun e9 => (show x = 34 ∨ x = 35 ∨ x = 36 ∨ x = 37 ∨ x = 38 ∨ x = 39 ∨ x = 40 ∨ x = 47 ∨ x = 48 from Or.inr (Or.inr (Or.inr (Or.inr (Or.inr (Or.inr (Or.inr (Or.inl (e9)))))))))) (fun h9 => h9.elim (fun e9 => (show x = 34 ∨ x = 35 ∨ x = 36 ∨ x = 37 ∨ x = 38 ∨ x = 39 ∨ x = 40 ∨ x = 47 ∨ x = 48 from Or.inr (Or.inr (Or.inr (Or.inr (Or.inr (Or.inr (Or.inr (Or.inr (e9)))))))))) (fun h9 => h9.elim (fun e9 => (show x = 34 ∨ x = 35 ∨ x = 36 ∨ x = 37 ∨ x = 38 ∨ x = 39 ∨ x = 40 ∨ x = 47 ∨ x = 48 from Or.inr (Or.inr (Or.inl (e9))))) (fun h9 => h9.elim (fun e9 => (show x = 34 ∨ x = 35 ∨ x = 36 ∨ x = 37 ∨ x = 38 ∨ x = 39 ∨ x = 40 ∨ x = 47 ∨ x = 48 from Or.inr (Or.inr (Or.inr (Or.inl (e9)))))) (fun h9 => h9.elim (fun e9 => (show x = 34 ∨ x = 35 ∨ x = 36 ∨ x = 37 ∨ x = 38 ∨ x = 39 ∨ x = 40 ∨ x = 47 ∨ x = 48 from Or.inr (Or.inr (Or.inr (Or.inr (Or.inl (e9))))))) (fun h9 => (show x = 34 ∨ x = 35 ∨ x = 36 ∨ x = 37 ∨ x = 38 ∨ x = 39 ∨ x = 40 ∨ x = 47 ∨ x = 48 from Or.inr (Or.inr (Or.inr (Or.inr (Or.inr (Or.inl (h9))))))))))))) (fun x k (h9 : (x = 33 ∧ k = 9)) => (show (x = 34 ∨ x = 35 ∨ x = 36 ∨ x = 37 ∨ x = 38 ∨ x = 39 ∨ x = 40 ∨ x = 47 ∨ x = 48) ∨ ((x = 33 ∧ k = 1) ∨ (x = 33 ∧ k = 3) ∨ (x = 33 ∧ k = 9) ∨ (x = 33 ∧ k = 10) ∨ (x = 33 ∧ k = 11)) from Or.inr (show (x = 33 ∧ k = 1) ∨ (x = 33 ∧ k = 3) ∨ (x = 33 ∧ k = 9) ∨ (x = 33 ∧ k = 10) ∨ (x = 33 ∧ k = 11) from Or.inr (Or.inr (Or.inl (h9))))))
  have k_30 : (gi σ2 1 1).toInt = (gi σ1 1 1).toInt := congrArg Int32.toInt (FX_i cσ2 (show ¬ (1 = 47 ∨ 1 = 48 ∨ 1 = 36 ∨ 1 = 37 ∨ 1 = 38 ∨ 1 = 39) from by omega) (show ¬ ((1 = 33 ∧ 1 = 9)) from by omega))
  have k_31 : (gi σ2 1 9).toInt = (gi σ1 1 9).toInt := congrArg Int32.toInt (FX_i cσ2 (show ¬ (1 = 47 ∨ 1 = 48 ∨ 1 = 36 ∨ 1 = 37 ∨ 1 = 38 ∨ 1 = 39) from by omega) (show ¬ ((1 = 33 ∧ 9 = 9)) from by omega))
  have k_32 : (gi σ2 13 1).toInt = (gi σ1 13 1).toInt := congrArg Int32.toInt (FX_i cσ2 (show ¬ (13 = 47 ∨ 13 = 48 ∨ 13 = 36 ∨ 13 = 37 ∨ 13 = 38 ∨ 13 = 39) from by omega) (show ¬ ((13 = 33 ∧ 1 = 9)) from by omega))
  have nσ2_1 : NN σ2 1 := NN_fx nσ1_1 cσ2 (show ¬ (1 = 47 ∨ 1 = 48 ∨ 1 = 36 ∨ 1 = 37 ∨ 1 = 38 ∨ 1 = 39) from by omega) (show ¬ (2 = 47 ∨ 2 = 48 ∨ 2 = 36 ∨ 2 = 37 ∨ 2 = 38 ∨ 2 = 39) from by omega) (show ¬ (3 = 47 ∨ 3 = 48 ∨ 3 = 36 ∨ 3 = 37 ∨ 3 = 38 ∨ 3 = 39) from by omega) (show ¬ ((1 = 33 ∧ 1 = 9)) from by omega) (show ¬ ((1 = 33 ∧ 3 = 9)) from by omega) (fun k (h9 : (2 = 33 ∧ k = 9)) => by omega) (fun k (h9 : (3 = 33 ∧ k = 9)) => by omega)
  have w_33 := Int32.toInt_lt r3
  have w_34 := Int32.le_toInt r3
  have z_35 : (0 : Int32).toInt = 0 := rfl
  exact U21 r3 (0 : Int32) σ2 mσ2 fσ2 nσ2_1 (by omega) (by omega) (by omega)
theorem lim_C9 {c : Nat} (hc : isC c) {k : Nat} (hk : k % 3 = 0) : lim (c + 9) k = some (0, 5) := by rcases hc with rfl | rfl | rfl <;> simp [lim, limL, limC, hk]
theorem FV_hi {σ : Sg} {a k : Nat} {v : Int32} (h : FV σ) (ha : a = 118 ∨ a = 120 ∨ a = 121) (h1 : (gi σ 74 12).toInt < (gi σ 74 11).toInt) (h2 : (gi σ 74 50).toInt < (gi σ 74 11).toInt) (hk : 10 * (gi σ 74 11).toInt ≤ (k : Int)) : FV (si σ a k v) := by
  intro f hf hc
  rw [gi_si_ne (Or.inl (by omega)), gi_si_ne (Or.inl (by omega)), gi_si_ne (Or.inl (by omega))] at hc
  have hlt : (f : Int) < (gi σ 74 11).toInt := by omega
  intro n hn hcl hw
  rw [gi_si_ne (Or.inl (by omega))] at hcl
  rw [gi_si_ne (Or.inr (by omega))] at hw
  obtain ⟨lo, hi, e1, e2, e3, e4, e5, e6⟩ := h f hf hc n hn hcl hw
  exact ⟨lo, hi, by rw [gi_si_ne (Or.inr (by omega))]; exact e1, by rw [gi_si_ne (Or.inr (by omega))]; exact e2, e3, e4, e5, okSeg_eq (fun j j1 j2 => gi_si_ne (Or.inl (by omega))) e6⟩
/-! a condition that is read: how high the pile would stand -/
theorem BL_tr {σ0 σ σ' : Sg} (h : BL σ0 σ) (g : BL σ σ') (hs : (gi σ0 74 24).toInt ≤ (gi σ 74 24).toInt) : BL σ0 σ' := fun k hk => (g k (by omega)).trans (h k hk)
theorem BL_si {σ0 σ : Sg} {a k : Nat} {v : Int32} (h : BL σ0 σ) (ha : a ≠ 122) : BL σ0 (si σ a k v) := fun j hj => (gi_si_ne (Or.inl (fun e => ha e.symm))).trans (h j hj)
theorem tnc {x y : Int32} (h : x.toInt = y.toInt) : x.toNatClampNeg = y.toNatClampNeg := congrArg Int.toNat h
noncomputable def TI (σ0 σ : Sg) (h : Nat) : Prop := OKP σ (gi σ0 74 24).toNatClampNeg (gi σ 74 24).toNatClampNeg (nbw σ (gi σ 74 25).toNatClampNeg + h)
theorem TI_start {σ0 σ : Sg} (h24 : (gi σ 74 24).toInt = (gi σ0 74 24).toInt) (h25 : (gi σ 74 25).toInt = 0) : TI σ0 σ 0 := by
  unfold TI
  rw [tnc h24, show (gi σ 74 25).toNatClampNeg = 0 from congrArg Int.toNat h25]
  exact OKP_0
theorem TI_eq {σ0 σ σ' : Sg} {h : Nat} (q : TI σ0 σ h) (h24 : (gi σ' 74 24).toInt = (gi σ 74 24).toInt) (h25 : (gi σ' 74 25).toInt = (gi σ 74 25).toInt) (e2 : ∀ k, gi σ' 122 k = gi σ 122 k) (e3 : ∀ k, gi σ' 123 k = gi σ 123 k) : TI σ0 σ' h := by
  unfold TI at q ⊢
  rw [tnc h24, tnc h25, nbw_eq (fun k _ => e3 k)]
  exact OKP_eq (fun k _ => e2 k) q
theorem TI_push {σ0 σ σ' : Sg} {h h' : Nat} {x : Int32} (q : TI σ0 σ h) (w0 : 0 ≤ (gi σ 74 25).toInt) (h24 : (gi σ' 74 24).toInt = (gi σ 74 24).toInt) (h25 : (gi σ' 74 25).toInt = (gi σ 74 25).toInt + 1) (e2 : ∀ k, gi σ' 122 k = gi σ 122 k) (e3 : ∀ k, ¬ k = (gi σ 74 25).toNatClampNeg → gi σ' 123 k = gi σ 123 k) (top : gi σ' 123 (gi σ 74 25).toNatClampNeg = x) (hh : ((x = 38 ∨ x = 124) ∧ h = h' + 1) ∨ (¬ (x = 38 ∨ x = 124) ∧ h = h')) : TI σ0 σ' h' := by
  unfold TI at q ⊢
  have c1 := cl_eq w0
  have c2 := cl_eq (x := gi σ' 74 25) (by omega)
  rw [tnc h24, show (gi σ' 74 25).toNatClampNeg = (gi σ 74 25).toNatClampNeg + 1 from by omega]
  have e : nbw σ' (gi σ 74 25).toNatClampNeg = nbw σ (gi σ 74 25).toNatClampNeg := nbw_eq (fun k hk => e3 k (by omega))
  rcases hh with ⟨hx, e9⟩ | ⟨hx, e9⟩
  · rw [nbw_y (by rw [top]; exact hx), e]
    rw [e9] at q
    rw [show nbw σ (gi σ 74 25).toNatClampNeg + 1 + h' = nbw σ (gi σ 74 25).toNatClampNeg + (h' + 1) from by omega]
    exact OKP_eq (fun k _ => e2 k) q
  · rw [nbw_n (by rw [top]; exact hx), e]
    rw [e9] at q
    exact OKP_eq (fun k _ => e2 k) q
theorem TI_pop {σ0 σ σ' : Sg} {h : Nat} (q : TI σ0 σ h) (w0 : 1 ≤ (gi σ 74 25).toInt) (top : ¬ (gi σ 123 ((gi σ 74 25) - 1).toNatClampNeg = 38 ∨ gi σ 123 ((gi σ 74 25) - 1).toNatClampNeg = 124)) (h24 : (gi σ' 74 24).toInt = (gi σ 74 24).toInt) (h25 : (gi σ' 74 25).toInt = (gi σ 74 25).toInt - 1) (e1 : ((gi σ 74 25) - 1).toInt = (gi σ 74 25).toInt - 1) (e2 : ∀ k, gi σ' 122 k = gi σ 122 k) (e3 : ∀ k, gi σ' 123 k = gi σ 123 k) : TI σ0 σ' h := by
  unfold TI at q ⊢
  have c1 := cl_eq (x := gi σ 74 25) (by omega)
  have c2 := cl_eq (x := gi σ' 74 25) (by omega)
  have c3 := cl_eq (x := (gi σ 74 25) - 1) (by omega)
  rw [show (gi σ 74 25).toNatClampNeg = (gi σ' 74 25).toNatClampNeg + 1 from by omega] at q
  rw [show ((gi σ 74 25) - 1).toNatClampNeg = (gi σ' 74 25).toNatClampNeg from by omega] at top
  rw [nbw_n top] at q
  rw [tnc h24, nbw_eq (fun k _ => e3 k)]
  exact OKP_eq (fun k _ => e2 k) q
theorem TI_settle {σ0 σ σ' : Sg} (q : TI σ0 σ 1) (p : HS σ σ') (e : nbw σ' (gi σ' 74 25).toNatClampNeg = nbw σ (gi σ' 74 25).toNatClampNeg) : TI σ0 σ' 1 := by
  unfold TI
  rw [e]
  exact p _ q
theorem TI_whole {σ0 σ σ' : Sg} (q : TI σ0 σ 1) (p : HK σ σ') (e : nbw σ' (gi σ' 74 25).toNatClampNeg = nbw σ (gi σ 74 25).toNatClampNeg) : TI σ0 σ' 1 := by
  unfold TI
  rw [e]
  exact p _ _ (by omega) q
theorem TI_test {σ0 σ σ' : Sg} (q : TI σ0 σ 0) (p : HT σ σ') (e : nbw σ' (gi σ' 74 25).toNatClampNeg = nbw σ (gi σ 74 25).toNatClampNeg) (h0 : 0 ≤ (gi σ 74 25).toInt) (h1 : (gi σ 74 25).toInt ≤ 99) : TI σ0 σ' 1 := by
  have c := cl_eq h0
  have n := nbw_le σ (gi σ 74 25).toNatClampNeg
  unfold TI
  rw [e]
  exact p _ _ (by omega) q
noncomputable def TW (σ0 σ : Sg) (x : Int32) : Prop := (x = 0 → TI σ0 σ 1) ∧ (¬ x = 0 → TI σ0 σ 0)
theorem TW_0 {σ0 σ : Sg} {x : Int32} (h : x = 0) (q : TI σ0 σ 1) : TW σ0 σ x := ⟨fun _ => q, fun z => absurd h z⟩
theorem TW_1 {σ0 σ : Sg} {x : Int32} (h : ¬ x = 0) (q : TI σ0 σ 0) : TW σ0 σ x := ⟨fun z => absurd z h, fun _ => q⟩
noncomputable def K120 (σ0 σ : Sg) (c : Nat) : Prop := gi σ 120 c = gi σ0 74 24 ∧ ∀ k, ¬ k = c → gi σ 120 k = gi σ0 120 k ∧ gi σ 121 k = gi σ0 121 k
theorem K120_fr {S F : List Nat} {σ0 σ σ' : Sg} {c : Nat} (h : K120 σ0 σ c) (f : Fr S F σ σ') (h1 : 120 ∉ S) (h2 : 121 ∉ S) : K120 σ0 σ' c :=
  ⟨(congrFun (f.1 120 h1).1 c).trans h.1, fun k hk => ⟨(congrFun (f.1 120 h1).1 k).trans (h.2 k hk).1, (congrFun (f.1 121 h2).1 k).trans (h.2 k hk).2⟩⟩
theorem K120_si {σ0 σ : Sg} {a j c : Nat} {v : Int32} (h : K120 σ0 σ c) (ha : a ≠ 120 ∧ a ≠ 121) : K120 σ0 (si σ a j v) c :=
  ⟨(gi_si_ne (Or.inl (Ne.symm ha.1))).trans h.1, fun k hk => ⟨(gi_si_ne (Or.inl (Ne.symm ha.1))).trans (h.2 k hk).1, (gi_si_ne (Or.inl (Ne.symm ha.2))).trans (h.2 k hk).2⟩⟩
theorem K120_to {σ0 σ : Sg} {c : Nat} {v : Int32} (h : K120 σ0 σ c) : K120 σ0 (si σ 121 c v) c :=
  ⟨(gi_si_ne (Or.inl (by decide +kernel))).trans h.1, fun k hk => ⟨(gi_si_ne (Or.inl (by decide +kernel))).trans (h.2 k hk).1, (gi_si_ne (Or.inr hk)).trans (h.2 k hk).2⟩⟩
theorem K120_mk {σ0 σ1 σ2 σ4 : Sg} {c : Nat} {x y : Int32} (e1 : σ1 = si σ0 74 25 x) (e2 : σ2 = si σ1 74 26 y) (e4 : σ4 = si σ2 120 c (gi σ2 74 24)) : K120 σ0 σ4 c := by
  subst e4 e2 e1
  refine ⟨?_, fun k hk => ⟨?_, ?_⟩⟩
  · rw [gi_si_eq, gi_si_ne (Or.inr (by decide +kernel)), gi_si_ne (Or.inr (by decide +kernel))]
  · rw [gi_si_ne (Or.inr hk), gi_si_ne (Or.inl (by decide +kernel)), gi_si_ne (Or.inl (by decide +kernel))]
  · rw [gi_si_ne (Or.inl (by decide +kernel)), gi_si_ne (Or.inl (by decide +kernel)), gi_si_ne (Or.inl (by decide +kernel))]
theorem settle_top {σ σ' : Sg} {c : Nat} {a v : Int32} (p : (gi σ 74 25).toInt = 0 ∨ (¬ gi σ 123 ((gi σ 74 25) - (1 : Int32)).toNatClampNeg = 38 ∧ (¬ a = 38 → ¬ gi σ 123 ((gi σ 74 25) - (1 : Int32)).toNatClampNeg = 124))) (ha : ¬ a = 38) (e : σ' = si σ 121 c v) (h : ¬ (gi σ' 74 25) = 0) : ¬ (gi σ' 123 ((gi σ' 74 25) - 1).toNatClampNeg = 38 ∨ gi σ' 123 ((gi σ' 74 25) - 1).toNatClampNeg = 124) := by
  subst e
  rw [gi_si_ne (Or.inl (by decide +kernel))] at h
  rw [gi_si_ne (Or.inl (by decide +kernel)), gi_si_ne (Or.inl (by decide +kernel))]
  rcases p with p | p
  · exact absurd (Int32.toInt_inj.mp p) h
  · exact fun z => z.elim p.1 (p.2 ha)
noncomputable def TE (σ σ' : Sg) (c : Nat) : Prop := OKP σ' (gi σ 74 24).toNatClampNeg (gi σ' 74 24).toNatClampNeg 1 ∧ BL σ σ' ∧ gi σ' 120 c = gi σ 74 24 ∧ gi σ' 121 c = gi σ' 74 24 ∧ ∀ k, ¬ k = c → gi σ' 120 k = gi σ 120 k ∧ gi σ' 121 k = gi σ 121 k
theorem TE_mk {σ0 σ : Sg} {c : Nat} (q : TI σ0 σ 1) (w : (gi σ 74 25).toInt = 0) (b : BL σ0 σ) (k : K120 σ0 σ c) (t : gi σ 121 c = gi σ 74 24) : TE σ0 σ c := by
  unfold TI at q
  rw [show (gi σ 74 25).toNatClampNeg = 0 from congrArg Int.toNat w] at q
  exact ⟨q, b, k.1, t, k.2⟩
/-! a clause, a text: what stays as it was -/
noncomputable def CZ (σ0 σ : Sg) (c : Nat) : Prop := (∀ k, gi σ 122 k = gi σ0 122 k) ∧ (∀ k, gi σ 120 k = gi σ0 120 k) ∧ (∀ k, gi σ 121 k = gi σ0 121 k) ∧ (∀ k, ¬ k = c → gi σ 118 k = gi σ0 118 k) ∧ gi σ 74 24 = gi σ0 74 24
theorem CZ_head {S F : List Nat} {σ0 σ : Sg} {c : Nat} (f : Fr S F σ0 σ) (h1 : 122 ∉ S) (h2 : 120 ∉ S) (h3 : 121 ∉ S) (h4 : 24 ∉ F) (p : ∀ k : Nat, ¬ k = c → gi σ 118 k = gi σ0 118 k) : CZ σ0 σ c :=
  ⟨fun k => congrFun (f.1 122 h1).1 k, fun k => congrFun (f.1 120 h2).1 k, fun k => congrFun (f.1 121 h3).1 k, p, f.2.1 24 h4⟩
theorem CZ_fr {S F : List Nat} {σ0 σ σ' : Sg} {c : Nat} (q : CZ σ0 σ c) (f : Fr S F σ σ') (h1 : 122 ∉ S) (h2 : 120 ∉ S) (h3 : 121 ∉ S) (h5 : 118 ∉ S) (h4 : 24 ∉ F) : CZ σ0 σ' c :=
  ⟨fun k => (congrFun (f.1 122 h1).1 k).trans (q.1 k), fun k => (congrFun (f.1 120 h2).1 k).trans (q.2.1 k), fun k => (congrFun (f.1 121 h3).1 k).trans (q.2.2.1 k), fun k hk => (congrFun (f.1 118 h5).1 k).trans (q.2.2.2.1 k hk), (f.2.1 24 h4).trans q.2.2.2.2⟩
theorem CZ_119 {σ0 σ : Sg} {c j : Nat} {v : Int32} (q : CZ σ0 σ c) : CZ σ0 (si σ 119 j v) c :=
  ⟨fun k => (gi_si_ne (Or.inl (by decide +kernel))).trans (q.1 k), fun k => (gi_si_ne (Or.inl (by decide +kernel))).trans (q.2.1 k), fun k => (gi_si_ne (Or.inl (by decide +kernel))).trans (q.2.2.1 k), fun k hk => (gi_si_ne (Or.inl (by decide +kernel))).trans (q.2.2.2.1 k hk), (gi_si_ne (Or.inl (by decide +kernel))).trans q.2.2.2.2⟩
noncomputable def CLA (σ σ' : Sg) (c : Nat) : Prop := BL σ σ' ∧ (∀ k, ¬ k = c → gi σ' 118 k = gi σ 118 k ∧ gi σ' 120 k = gi σ 120 k ∧ gi σ' 121 k = gi σ 121 k) ∧ ((gi σ' 118 c).toInt ≤ 1 → gi σ' 120 c = gi σ 74 24 ∧ gi σ' 121 c = gi σ' 74 24 ∧ OKP σ' (gi σ 74 24).toNatClampNeg (gi σ' 74 24).toNatClampNeg 1)
theorem CLA_z {σ0 σ : Sg} {c : Nat} (h : CZ σ0 σ c) (w : ¬ (gi σ 118 c).toInt ≤ 1) : CLA σ0 σ c :=
  ⟨fun k _ => h.1 k, fun k hk => ⟨h.2.2.2.1 k hk, h.2.1 k, h.2.2.1 k⟩, fun z => absurd z w⟩
theorem CLA_e {σ0 σ1 σ2 : Sg} {c : Nat} (h : CZ σ0 σ1 c) (e : TE σ1 σ2 c) (k8 : ∀ k, gi σ2 118 k = gi σ1 118 k) : CLA σ0 σ2 c := by
  obtain ⟨e1, e2, e3, e4, e5⟩ := e
  obtain ⟨h1, h2, h3, h4, h5⟩ := h
  refine ⟨fun k hk => (e2 k (by rw [h5]; exact hk)).trans (h1 k), fun k hk => ⟨(k8 k).trans (h4 k hk), (e5 k hk).1.trans (h2 k), (e5 k hk).2.trans (h3 k)⟩, fun _ => ⟨e3.trans h5, e4, ?_⟩⟩
  rw [← h5]; exact e1
noncomputable def OKN (σ : Sg) (f : Nat) (n : Int) : Prop := ∀ i : Nat, (i : Int) < n → (gi σ 118 (10 * f + i)).toInt ≤ 1 → ∃ lo hi : Nat, (gi σ 120 (10 * f + i)).toInt = lo ∧ (gi σ 121 (10 * f + i)).toInt = hi ∧ 100 * f ≤ lo ∧ lo ≤ hi ∧ (hi : Int) ≤ (gi σ 74 24).toInt ∧ okSeg σ lo hi
theorem OKN_step {σ σ' : Sg} {f c : Nat} {n : Int} (h : OKN σ f n) (cl : CLA σ σ' c) (hc : (c : Int) = 10 * f + n) (h0 : 0 ≤ n) (s0 : 100 * (f : Int) ≤ (gi σ 74 24).toInt) (s1 : (gi σ 74 24).toInt ≤ (gi σ' 74 24).toInt) : OKN σ' f (n + 1) := by
  intro i hi hw
  by_cases e : (i : Int) = n
  · rw [show 10 * f + i = c from by omega] at hw ⊢
    obtain ⟨e1, e2, q⟩ := cl.2.2 hw
    have c1 := cl_eq (x := gi σ 74 24) (by omega)
    have c2 := cl_eq (x := gi σ' 74 24) (by omega)
    exact ⟨(gi σ 74 24).toNatClampNeg, (gi σ' 74 24).toNatClampNeg, by rw [e1]; exact c1.symm, by rw [e2]; exact c2.symm, by omega, by omega, by omega, OKP_seg q⟩
  · obtain ⟨k1, k2, k3⟩ := cl.2.1 (10 * f + i) (by omega)
    rw [k1] at hw
    obtain ⟨lo, hi', e1, e2, e3, e4, e5, e6⟩ := h i (by omega) hw
    exact ⟨lo, hi', by rw [k2]; exact e1, by rw [k3]; exact e2, e3, e4, by omega, okSeg_eq (fun j _ j2 => cl.1 j (by omega)) e6⟩
theorem OKN_fr {S F : List Nat} {σ σ' : Sg} {f : Nat} {n : Int} (h : OKN σ f n) (q : Fr S F σ σ') (h1 : 122 ∉ S) (h2 : 120 ∉ S) (h3 : 121 ∉ S) (h5 : 118 ∉ S) (h4 : 24 ∉ F) : OKN σ' f n := by
  intro i hi hw
  rw [show gi σ' 118 (10 * f + i) = gi σ 118 (10 * f + i) from congrFun (q.1 118 h5).1 _] at hw
  obtain ⟨lo, hi', e1, e2, e3, e4, e5, e6⟩ := h i hi hw
  refine ⟨lo, hi', ?_, ?_, e3, e4, ?_, okSeg_eq (fun j _ _ => congrFun (q.1 122 h1).1 j) e6⟩
  · rw [show gi σ' 120 (10 * f + i) = gi σ 120 (10 * f + i) from congrFun (q.1 120 h2).1 _]; exact e1
  · rw [show gi σ' 121 (10 * f + i) = gi σ 121 (10 * f + i) from congrFun (q.1 121 h3).1 _]; exact e2
  · rw [q.2.1 24 h4]; exact e5
theorem OKN_117 {σ : Sg} {f j : Nat} {n : Int} {v : Int32} (h : OKN σ f n) : OKN (si σ 117 j v) f n := by
  intro i hi hw
  rw [gi_si_ne (Or.inl (by decide +kernel))] at hw
  obtain ⟨lo, hi', e1, e2, e3, e4, e5, e6⟩ := h i hi hw
  exact ⟨lo, hi', by rw [gi_si_ne (Or.inl (by decide +kernel))]; exact e1, by rw [gi_si_ne (Or.inl (by decide +kernel))]; exact e2, e3, e4, by rw [gi_si_ne (Or.inl (by decide +kernel))]; exact e5, okSeg_eq (fun k _ _ => gi_si_ne (Or.inl (by decide +kernel))) e6⟩
theorem OKN_end {σ : Sg} {f : Nat} {n : Int} (h : OKN σ f n) (hc : (gi σ 117 f).toInt = n) (hs : (gi σ 74 24).toInt ≤ 100 * (f : Int) + 100) : okF σ f := by
  intro i hi hcl hw
  rw [hc] at hcl
  obtain ⟨lo, hi', e1, e2, e3, e4, e5, e6⟩ := h i hcl hw
  exact ⟨lo, hi', e1, e2, e3, e4, by omega, e6⟩
theorem FV_cl {σ : Sg} {k : Nat} {v : Int32} (h : FV σ) (h1 : (gi σ 74 12).toInt < (gi σ 74 11).toInt) (h2 : (gi σ 74 50).toInt < (gi σ 74 11).toInt) (hk : (gi σ 74 11).toInt ≤ (k : Int)) : FV (si σ 117 k v) := by
  intro f hf hc
  rw [gi_si_ne (Or.inl (by decide +kernel)), gi_si_ne (Or.inl (by decide +kernel)), gi_si_ne (Or.inl (by decide +kernel))] at hc
  intro n hn hcl hw
  rw [gi_si_ne (Or.inr (by omega))] at hcl
  rw [gi_si_ne (Or.inl (by decide +kernel))] at hw
  obtain ⟨lo, hi, e1, e2, e3, e4, e5, e6⟩ := h f hf hc n hn hcl hw
  exact ⟨lo, hi, by rw [gi_si_ne (Or.inl (by decide +kernel))]; exact e1, by rw [gi_si_ne (Or.inl (by decide +kernel))]; exact e2, e3, e4, e5, okSeg_eq (fun j _ _ => gi_si_ne (Or.inl (by decide +kernel))) e6⟩
theorem FV_the {σ : Sg} {f : Nat} (h : FV σ) (q : okF σ f) (e : (gi σ 74 11).toInt = (f : Int)) : FV (si σ 74 12 (gi σ 74 11)) := by
  intro g hg hc
  refine okF_si rfl ?_
  rw [gi_si_ne (Or.inr (by decide +kernel)), gi_si_eq, gi_si_ne (Or.inr (by decide +kernel))] at hc
  by_cases z : (g : Int) = (gi σ 74 11).toInt
  · rw [show g = f from by omega]; exact q
  · exact h g hg (by omega)
theorem FV_more {σ : Sg} {v : Int32} (h : FV σ) (e : (gi σ 74 12).toInt = (gi σ 74 11).toInt) (hv : v.toInt = (gi σ 74 11).toInt + 1) : FV (si σ 74 11 v) := by
  intro g hg hc
  refine okF_si rfl (h g hg ?_)
  rw [gi_si_eq, gi_si_ne (Or.inr (by decide +kernel)), gi_si_ne (Or.inr (by decide +kernel)), hv] at hc
  omega
/-! THE MACHINE'S POINT over raw cells: while objects are being made. Addresses, and what lies there. -/
noncomputable abbrev RWd : Type := List Nat × (Nat → va_E)
noncomputable def rc (ω : RWd) : va_W := ω.1.map (fun a => (a, ω.2 a))
noncomputable def rput (ω : RWd) (a : Nat) (e : va_E) : RWd := (ω.1, va_up ω.2 a e)
noncomputable def rnew (ω : RWd) (a : Nat) (e : va_E) : RWd := (ω.1 ++ [a], va_up ω.2 a e)
theorem rc_at {ω : RWd} {a : Nat} (h : a ∈ ω.1) : ∃ q0 : Nat, (rc ω)[q0]? = some (a, ω.2 a) :=
  List.getElem?_of_mem (List.mem_map.mpr ⟨a, h, rfl⟩)
theorem rc_i {ω : RWd} {j b : Nat} (h : ω.1[j]? = some b) : (rc ω)[j]? = some (b, ω.2 b) := by
  unfold rc
  rw [List.getElem?_map, h]
  rfl
theorem rc_j {ω : RWd} {j a : Nat} {e : va_E} (h : (rc ω)[j]? = some (a, e)) : ω.1[j]? = some a ∧ e = ω.2 a := by
  unfold rc at h
  rw [List.getElem?_map] at h
  cases hb : ω.1[j]? with
  | none => rw [hb] at h; cases h
  | some b =>
    rw [hb] at h
    have h := Option.some.inj h
    have h1 : b = a := congrArg Prod.fst h
    have h2 : ω.2 b = e := congrArg Prod.snd h
    subst h1
    exact ⟨rfl, h2.symm⟩
theorem rc_put {A : Nat → Prop} {ω : RWd} {a q0 : Nat} {e : va_E} (hD : va_D A (rc ω)) (hq : (rc ω)[q0]? = some (a, ω.2 a)) : (rc ω).set q0 (a, e) = rc (rput ω a e) := by
  have hl := (List.getElem?_eq_some_iff.mp hq).1
  apply List.ext_getElem?
  intro j
  by_cases hj : j = q0
  · subst hj
    rw [List.getElem?_set_self hl, rc_i (ω := rput ω a e) (rc_j hq).1]
    show _ = some (a, va_up ω.2 a e a)
    rw [va_up_self]
  · rw [List.getElem?_set_ne (Ne.symm hj)]
    cases hb : ω.1[j]? with
    | none =>
      unfold rc
      rw [List.getElem?_map, List.getElem?_map, hb, show (rput ω a e).1[j]? = none from hb]
      rfl
    | some b =>
      have h3 := rc_i hb
      have hne : b ≠ a := fun z => by
        subst z
        exact hj (hD.1 j q0 _ _ h3 hq rfl)
      rw [h3, rc_i (ω := rput ω a e) (show (rput ω a e).1[j]? = some b from hb)]
      show some (b, ω.2 b) = some (b, va_up ω.2 a e b)
      rw [va_up_ne _ _ hne]
theorem rc_new {A : Nat → Prop} {ω : RWd} {q : Nat} {e : va_E} (hD : va_D A (rc ω ++ [(q, e)])) : q ∉ ω.1 ∧ rc ω ++ [(q, e)] = rc (rnew ω q e) := by
  have hn : q ∉ ω.1 := by
    intro hm
    obtain ⟨i, hi⟩ := List.getElem?_of_mem hm
    have h0 := rc_i hi
    have hil := (List.getElem?_eq_some_iff.mp h0).1
    have h1 : (rc ω ++ [(q, e)])[i]? = some (q, ω.2 q) := by rw [List.getElem?_append_left hil]; exact h0
    have h2 : (rc ω ++ [(q, e)])[(rc ω).length]? = some (q, e) := by rw [List.getElem?_append_right (Nat.le_refl _), Nat.sub_self]; rfl
    have h3 := hD.1 i _ _ _ h1 h2 rfl
    omega
  refine ⟨hn, ?_⟩
  unfold rc rnew
  rw [List.map_append]
  congr 1
  · apply List.map_congr_left
    intro a ha
    show (a, ω.2 a) = (a, va_up ω.2 q e a)
    rw [va_up_ne _ _ (show a ≠ q from fun z => hn (z ▸ ha))]
  · show [(q, e)] = [(q, va_up ω.2 q e q)]
    rw [va_up_self]
/-- what was made beside one object: apart from all that was there, with what lies in it -/
noncomputable def BT (ω0 ω : RWd) (h : Nat) (P : List (Nat × va_E)) : Prop := h ∈ ω0.1 ∧ (∀ a ∈ ω0.1, a ∈ ω.1 ∧ (a ≠ h → ω.2 a = ω0.2 a)) ∧ (P.map (fun x => x.1)).Nodup ∧ ∀ x ∈ P, x.1 ∈ ω.1 ∧ x.1 ∉ ω0.1 ∧ ω.2 x.1 = x.2
theorem BT_0 {ω : RWd} {h : Nat} (hm : h ∈ ω.1) : BT ω ω h [] := ⟨hm, fun a ha => ⟨ha, fun _ => rfl⟩, List.nodup_nil, fun x hx => absurd hx List.not_mem_nil⟩
theorem BT_h {ω0 ω : RWd} {h : Nat} {P : List (Nat × va_E)} (b : BT ω0 ω h P) : h ∈ ω.1 := (b.2.1 h b.1).1
theorem nodup_snoc {l : List Nat} {q : Nat} (h : l.Nodup) (hq : q ∉ l) : (l ++ [q]).Nodup := by
  rw [List.nodup_append]
  refine ⟨h, by simp, fun a ha b hb => ?_⟩
  have hb : b = q := by simpa using hb
  subst hb
  exact fun z => hq (z ▸ ha)
theorem BT_new {ω0 ω : RWd} {h q : Nat} {e : va_E} {P : List (Nat × va_E)} (b : BT ω0 ω h P) (hq : q ∉ ω.1) : BT ω0 (rnew ω q e) h (P ++ [(q, e)]) ∧ (rnew ω q e).2 h = ω.2 h := by
  obtain ⟨b1, b2, b3, b4⟩ := b
  have hne : ∀ a, a ∈ ω.1 → a ≠ q := fun a ha z => hq (z ▸ ha)
  have hm : ∀ a, a ∈ ω.1 → (rnew ω q e).2 a = ω.2 a := fun a ha => by
    show va_up ω.2 q e a = _
    rw [va_up_ne _ _ (hne a ha)]
  refine ⟨⟨b1, fun a ha => ⟨List.mem_append_left _ (b2 a ha).1, fun z => (hm a (b2 a ha).1).trans ((b2 a ha).2 z)⟩, ?_, fun x hx => ?_⟩, hm h (b2 h b1).1⟩
  · rw [List.map_append]
    refine nodup_snoc b3 (fun z => ?_)
    obtain ⟨x, hx, e2⟩ := List.mem_map.mp z
    have e2 : x.1 = q := e2
    exact hq (e2 ▸ (b4 x hx).1)
  · rcases List.mem_append.mp hx with hx | hx
    · exact ⟨List.mem_append_left _ (b4 x hx).1, (b4 x hx).2.1, (hm _ (b4 x hx).1).trans (b4 x hx).2.2⟩
    · have hx : x = (q, e) := by simpa using hx
      subst hx
      refine ⟨List.mem_append_right _ (by simp), fun z => hq (b2 q z).1, ?_⟩
      show va_up ω.2 q e q = e
      rw [va_up_self]
theorem BT_put {ω0 ω : RWd} {h : Nat} {e : va_E} {P : List (Nat × va_E)} (b : BT ω0 ω h P) : BT ω0 (rput ω h e) h P ∧ (rput ω h e).2 h = e := by
  obtain ⟨b1, b2, b3, b4⟩ := b
  have hm : ∀ a, a ≠ h → (rput ω h e).2 a = ω.2 a := fun a ha => by
    show va_up ω.2 h e a = _
    rw [va_up_ne _ _ ha]
  refine ⟨⟨b1, fun a ha => ⟨(b2 a ha).1, fun z => (hm a z).trans ((b2 a ha).2 z)⟩, b3, fun x hx => ⟨(b4 x hx).1, (b4 x hx).2.1, (hm x.1 (fun z => (b4 x hx).2.1 (z ▸ b1))).trans (b4 x hx).2.2⟩⟩, ?_⟩
  show va_up ω.2 h e h = e
  rw [va_up_self]
theorem map_set1 (P : List (Nat × va_E)) (i a : Nat) (e e' : va_E) (hi : P[i]? = some (a, e)) : (P.set i (a, e')).map (fun x => x.1) = P.map (fun x => x.1) := by
  apply List.ext_getElem?
  intro j
  rw [List.getElem?_map, List.getElem?_map]
  by_cases hj : j = i
  · subst hj
    rw [List.getElem?_set_self (List.getElem?_eq_some_iff.mp hi).1, hi]
    rfl
  · rw [List.getElem?_set_ne (Ne.symm hj)]
theorem nodup_at {P : List (Nat × va_E)} (hn : (P.map (fun x => x.1)).Nodup) {i j a : Nat} {e f : va_E} (hi : P[i]? = some (a, e)) (hj : P[j]? = some (a, f)) : i = j := by
  have h1 : (P.map (fun x => x.1))[i]? = some a := by rw [List.getElem?_map, hi]; rfl
  have h2 : (P.map (fun x => x.1))[j]? = some a := by rw [List.getElem?_map, hj]; rfl
  obtain ⟨l1, g1⟩ := List.getElem?_eq_some_iff.mp h1
  obtain ⟨l2, g2⟩ := List.getElem?_eq_some_iff.mp h2
  have h3 := List.pairwise_iff_getElem.mp hn
  rcases Nat.lt_trichotomy i j with q | q | q
  · exact absurd (g1.trans g2.symm) (h3 i j l1 l2 q)
  · exact q
  · exact absurd (g2.trans g1.symm) (h3 j i l2 l1 q)
theorem BT_set {ω0 ω : RWd} {h i a : Nat} {e e' : va_E} {P : List (Nat × va_E)} (b : BT ω0 ω h P) (hi : P[i]? = some (a, e)) : BT ω0 (rput ω a e') h (P.set i (a, e')) ∧ (rput ω a e').2 h = ω.2 h ∧ ω.2 a = e ∧ a ∈ ω.1 := by
  obtain ⟨b1, b2, b3, b4⟩ := b
  have hx0 : (a, e) ∈ P := List.mem_of_getElem? hi
  have ha := b4 (a, e) hx0
  have hm : ∀ c, c ≠ a → (rput ω a e').2 c = ω.2 c := fun c hc => by
    show va_up ω.2 a e' c = _
    rw [va_up_ne _ _ hc]
  have hne : ∀ c ∈ ω0.1, c ≠ a := fun c hc z => ha.2.1 (z ▸ hc)
  refine ⟨⟨b1, fun c hc => ⟨(b2 c hc).1, fun z => (hm c (hne c hc)).trans ((b2 c hc).2 z)⟩, ?_, fun x hx => ?_⟩, hm h (hne h b1), ha.2.2, ha.1⟩
  · rw [map_set1 P i a e e' hi]; exact b3
  · obtain ⟨j, hj⟩ := List.getElem?_of_mem hx
    by_cases hji : j = i
    · subst hji
      rw [List.getElem?_set_self (List.getElem?_eq_some_iff.mp hi).1] at hj
      have hj := (Option.some.inj hj).symm
      subst hj
      refine ⟨ha.1, ha.2.1, ?_⟩
      show va_up ω.2 a e' a = e'
      rw [va_up_self]
    · rw [List.getElem?_set_ne (Ne.symm hji)] at hj
      have hxm := List.mem_of_getElem? hj
      refine ⟨(b4 x hxm).1, (b4 x hxm).2.1, (hm _ (fun z => hji ?_)).trans (b4 x hxm).2.2⟩
      obtain ⟨x1, x2⟩ := x
      have z : x1 = a := z
      subst z
      exact nodup_at b3 hj hi
theorem BT_call {ω0 ω ω2 : RWd} {h q : Nat} {e e' : va_E} {P P' : List (Nat × va_E)} (b : BT ω0 ω h P) (hq : q ∉ ω.1) (b2 : BT (rnew ω q e) ω2 q P') (c : ω2.2 q = e') : BT ω0 ω2 h (P ++ (q, e') :: P') ∧ ω2.2 h = ω.2 h := by
  obtain ⟨b3, b4⟩ := BT_new (e := e) b hq
  obtain ⟨a1, a2, a3, a4⟩ := b3
  obtain ⟨c1, c2, c3, c4⟩ := b2
  have hqh : h ≠ q := fun z => hq (z ▸ BT_h b)
  have hqn : ∀ x ∈ P, x.1 ≠ q := fun x hx z => hq (z ▸ (b.2.2.2 x hx).1)
  have hq0 : ∀ a ∈ ω0.1, a ≠ q := fun a ha z => hq (z ▸ (b.2.1 a ha).1)
  refine ⟨⟨a1, fun a ha => ?_, ?_, fun x hx => ?_⟩, ((c2 h (a2 h a1).1).2 hqh).trans b4⟩
  · have h1 := a2 a ha
    have h2 := c2 a h1.1
    exact ⟨h2.1, fun z => (h2.2 (hq0 a ha)).trans (h1.2 z)⟩
  · rw [List.map_append, List.nodup_append]
    refine ⟨b.2.2.1, ?_, fun x hx y hy => ?_⟩
    · rw [List.map_cons, List.nodup_cons]
      refine ⟨fun z => ?_, c3⟩
      obtain ⟨x, hx, e2⟩ := List.mem_map.mp z
      have e2 : x.1 = q := e2
      exact (c4 x hx).2.1 (e2 ▸ c1)
    · obtain ⟨x0, hx0, rfl⟩ := List.mem_map.mp hx
      obtain ⟨y0, hy0, rfl⟩ := List.mem_map.mp hy
      have m0 : x0.1 ∈ (rnew ω q e).1 := List.mem_append_left _ (b.2.2.2 x0 hx0).1
      rcases List.mem_cons.mp hy0 with hy0 | hy0
      · subst hy0; exact hqn x0 hx0
      · intro z
        exact (c4 y0 hy0).2.1 (z ▸ m0)
  · rcases List.mem_append.mp hx with hx | hx
    · have h1 := a4 x (List.mem_append_left _ hx)
      have h2 := c2 x.1 h1.1
      exact ⟨h2.1, h1.2.1, (h2.2 (hqn x hx)).trans h1.2.2⟩
    · rcases List.mem_cons.mp hx with hx | hx
      · subst hx
        exact ⟨(c2 q c1).1, fun z => hq (b.2.1 q z).1, c⟩
      · have h1 := c4 x hx
        exact ⟨h1.1, fun z => h1.2.1 (a2 x.1 z).1, h1.2.2⟩
/-- what else is known: all that comes may change, and arrays of the class's kinds can be made -/
noncomputable def UPV (V : Vx) : Prop := ∀ U, vX V U → (∀ q : Nat, U.heap.size ≤ q → vA V q) ∧ va_AO "NineMowers$Mower" U ∧ va_AO "NineMowers$Field" U ∧ va_AO "NineMowers$Tape" U
noncomputable def GRH (V : Vx) (ω : RWd) (H : Heap) : Prop := va_P (vD V) vwCl (rc ω) H ∧ va_D (vA V) (rc ω)
noncomputable def GRR (V : Vx) (ω : RWd) (U : State) : Prop := GRH V ω U.heap ∧ va_K (vD V) vwCl (tysV V) U ∧ vX V U ∧ XC V ∧ wfd V
theorem GRR_mk {V : Vx} {ω : RWd} {H : Heap} {s t : State} {locs : List Loc} (ht : t.heap = H) (hG : GRH V ω H) (hK : va_K (vD V) vwCl (tysV V) s) (hw : wfd V) (hX : vX V s ∧ XC V) (hS : va_S (vA V) s.heap H locs) (hW : s.WarmedH t.vm) : GRR V ω t :=
  ⟨by rw [ht]; exact hG, va_K.moved hW.alike hK, hX.2.1 s t (Or.inl hW) (by rw [ht]; exact hS.1) (by rw [ht]; exact hS.2.1) hX.1, hX.2, hw⟩
noncomputable def mI (M : Mx) : Prop := match M with
  | (p, l, e, R, s, m, args, below, meth, c, V, nL, Q) => meth.name = "<init>"
noncomputable def PR (M : Mx) (pc : Nat) (lv : List (Nat × Value)) (st : List Value) (ω : RWd) (kn : Nat × Nat) : Prop := match M with
  | (p, l, e, R, s, m, args, below, meth, c, V, nL, Q) => ∀ (ls : Array Slot) (H : Heap) (locs : List Loc), lv_has ls nL lv → GRH V ω H → va_S (vA V) s.heap H locs → W p l e R s m args below meth c H locs kn.1 kn.2 Q (F0 m pc ls st)
noncomputable def QRV (V : Vx) (Qk : RWd → Prop) : Array Value → State → Outcome → State → Prop := va_Qv Qk (fun ω t => GRR V ω t) (vA V)
noncomputable def QRR (V : Vx) (Qk : Nat → RWd → Prop) : Array Value → State → Outcome → State → Prop := va_Qr (fun u : Nat × RWd => Qk u.1 u.2) (fun u a t => a = u.1 ∧ GRR V u.2 t) (vA V)
noncomputable abbrev Kr (l : Launch) (V : Vx) (y : MethodName) (ws : List Cond) (rm : Room) (mc ms : Nat) (as : List Value) (ω : RWd) (Qc : Array Value → State → Outcome → State → Prop) : Prop := Met l y ws rm (va_Pc as (fun U => GRR V ω U)) Qc mc ms (vA V)
theorem GRRblind {V : Vx} {av : List Value} {ω : RWd} : FrameBlind (va_Pc av (fun U => GRR V ω U)) := fun a U g mk q => by
  obtain ⟨q0, q1, q2, q3, q4, q5⟩ := q
  exact ⟨q0, q1, va_K.moved (u := U) (U := U.calling g mk a) (Vm.Alike.refl U.vm) q2, q4.1 U _ (Or.inr rfl) (Nat.le_refl _) (fun _ _ _ => rfl) q3, q4, q5⟩
/-- the way in -/
theorem Kr_of {l : Launch} {V : Vx} {y : MethodName} {ws ws' : List Cond} {rm : Room} {mc ms : Nat} {cc : ByteArray} {maxL : Nat} {ret : Option FieldType} {own : String} {as : List Value} {ω : RWd} {Qc : Array Value → State → Outcome → State → Prop}
    (hy : plainName y.cls = true) (hw : ws = Cond.code y cc maxL ret :: ws') (ho : y.cls = own) (hlen : (lg_sl as).length ≤ maxL)
    (h : ∀ M : Mx, mL M = l → mV M = V → mN M = maxL → Cx M cc ret own ws rm mc ms Qc → (y.name = "<init>" → mI M) → PR M 0 (lv_args 0 as) [] ω (0, 0)) : Kr l V y ws rm mc ms as ω Qc := by
  refine Met.ofW (cc := cc) (maxL := maxL) (ret := ret) hy hw ?_
  intro p e s m args below meth c s1 B hml hv
  obtain ⟨rfl, hG, hK, hX, hC, hwf⟩ := hv
  have hown : s.vm.findClass own = some m.cls := by rw [← ho]; exact findClass_of_methodNamed B.named
  have hl := lv_entry as (n := maxL) hlen
  rw [lg_entry_eq]
  exact h (p, l, e, rm, s, m, _, below, meth, c, V, maxL, _) rfl rfl rfl ⟨B.exec, B.bytes, hml, hown, atoms_spec (ws := ws) B.pre, B.returns, B.notSynchronized, hK, rfl, rfl, hwf, hX, hC⟩ (fun hi => (name_of_methodNamed B.named B.method).1.trans hi) _ _ _ hl hG va_S.rf
section RulesR
variable {M : Mx} {cc : ByteArray} {ret : Option FieldType} {own : String} {Ts : List Cond} {rm rc0 : Room} {mc ms : Nat} {Qc : Array Value → State → Outcome → State → Prop} {pc : Nat} {lv lv' : List (Nat × Value)} {st : List Value} {ω : RWd} {kn : Nat × Nat}
theorem Z_aload_n (C : Cx M cc ret own Ts rm mc ms Qc) {k : Fin 4} {x : Nat} (hd : decode cc pc = .ok (.aload_n k, 1)) (j : Nat) (hj : lv[j]? = some ((k : Nat), .ref x)) (h : PR M (pc + 1) lv (.ref x :: st) ω kn) : PR M pc lv st ω kn := by
  obtain ⟨p, l, e, R, s, m, args, below, meth, c, V, nL, Q⟩ := M
  intro ls H locs hl hG hS
  exact lv_aload_n C.1 C.2.1 hd rfl (lv_at hl j hj) (h ls H locs hl hG hS)
theorem Z_iload_n (C : Cx M cc ret own Ts rm mc ms Qc) {k : Fin 4} {x : Int32} (hd : decode cc pc = .ok (.iload_n k, 1)) (j : Nat) (hj : lv[j]? = some ((k : Nat), .int x)) (h : PR M (pc + 1) lv (.int x :: st) ω kn) : PR M pc lv st ω kn := by
  obtain ⟨p, l, e, R, s, m, args, below, meth, c, V, nL, Q⟩ := M
  intro ls H locs hl hG hS
  exact lv_iload_n C.1 C.2.1 hd rfl (lv_at hl j hj) (h ls H locs hl hG hS)
theorem Z_astore_n (C : Cx M cc ret own Ts rm mc ms Qc) {k : Fin 4} {x : Nat} (hd : decode cc pc = .ok (.astore_n k, 1)) (hn : (k : Nat) < mN M) (hl' : stv lv (k : Nat) (.ref x) = lv') (h : PR M (pc + 1) lv' st ω kn) : PR M pc lv (.ref x :: st) ω kn := by
  obtain ⟨p, l, e, R, s, m, args, below, meth, c, V, nL, Q⟩ := M
  intro ls H locs hl hG hS
  exact lv_astore_n C.1 C.2.1 hd rfl hl hn hl' (fun ls hl => h ls H locs hl hG hS)
theorem Z_istore_n (C : Cx M cc ret own Ts rm mc ms Qc) {k : Fin 4} {x : Int32} (hd : decode cc pc = .ok (.istore_n k, 1)) (hn : (k : Nat) < mN M) (hl' : stv lv (k : Nat) (.int x) = lv') (h : PR M (pc + 1) lv' st ω kn) : PR M pc lv (.int x :: st) ω kn := by
  obtain ⟨p, l, e, R, s, m, args, below, meth, c, V, nL, Q⟩ := M
  intro ls H locs hl hG hS
  exact lv_istore_n C.1 C.2.1 hd rfl hl hn hl' (fun ls hl => h ls H locs hl hG hS)
theorem Z_iinc (C : Cx M cc ret own Ts rm mc ms Qc) {i : Nat} {n : Int} {x v : Int32} (hd : decode cc pc = .ok (.iinc i n, 3)) (j : Nat) (hj : lv[j]? = some (i, .int x)) (hv : x + Int32.ofInt n = v) (hn : i < mN M) (hl' : stv lv i (.int v) = lv') (h : PR M (pc + 3) lv' st ω kn) : PR M pc lv st ω kn := by
  obtain ⟨p, l, e, R, s, m, args, below, meth, c, V, nL, Q⟩ := M
  intro ls H locs hl hG hS
  exact lv_iinc C.1 C.2.1 hd hl hj hv hn hl' (fun ls hl => h ls H locs hl hG hS)
theorem Z_iconst (C : Cx M cc ret own Ts rm mc ms Qc) {n : Int} {v : Int32} (hd : decode cc pc = .ok (.iconst n, 1)) (hv : Int32.ofInt n = v) (h : PR M (pc + 1) lv (.int v :: st) ω kn) : PR M pc lv st ω kn := by
  obtain ⟨p, l, e, R, s, m, args, below, meth, c, V, nL, Q⟩ := M
  intro ls H locs hl hG hS
  exact lv_iconst C.1 C.2.1 hd hv (h ls H locs hl hG hS)
theorem Z_bipush (C : Cx M cc ret own Ts rm mc ms Qc) {n : Int} {v : Int32} (hd : decode cc pc = .ok (.bipush n, 2)) (hv : (Int8.ofInt n).toInt32 = v) (h : PR M (pc + 2) lv (.int v :: st) ω kn) : PR M pc lv st ω kn := by
  obtain ⟨p, l, e, R, s, m, args, below, meth, c, V, nL, Q⟩ := M
  intro ls H locs hl hG hS
  exact lv_bipush C.1 C.2.1 hd hv (h ls H locs hl hG hS)
theorem Z_sipush (C : Cx M cc ret own Ts rm mc ms Qc) {n : Int} {v : Int32} (hd : decode cc pc = .ok (.sipush n, 3)) (hv : (Int16.ofInt n).toInt32 = v) (h : PR M (pc + 3) lv (.int v :: st) ω kn) : PR M pc lv st ω kn := by
  obtain ⟨p, l, e, R, s, m, args, below, meth, c, V, nL, Q⟩ := M
  intro ls H locs hl hG hS
  exact lv_sipush C.1 C.2.1 hd hv (h ls H locs hl hG hS)
theorem Z_null (C : Cx M cc ret own Ts rm mc ms Qc) (hd : decode cc pc = .ok (.aconst_null, 1)) (h : PR M (pc + 1) lv (.null :: st) ω kn) : PR M pc lv st ω kn := by
  obtain ⟨p, l, e, R, s, m, args, below, meth, c, V, nL, Q⟩ := M
  intro ls H locs hl hG hS
  exact lv_null C.1 C.2.1 hd (h ls H locs hl hG hS)
theorem Z_dup (C : Cx M cc ret own Ts rm mc ms Qc) {x : Value} (hd : decode cc pc = .ok (.dup, 1)) (hx : x.category = 1) (h : PR M (pc + 1) lv (x :: x :: st) ω kn) : PR M pc lv (x :: st) ω kn := by
  obtain ⟨p, l, e, R, s, m, args, below, meth, c, V, nL, Q⟩ := M
  intro ls H locs hl hG hS
  exact lv_dup C.1 C.2.1 hd hx (h ls H locs hl hG hS)
theorem Z_goto (C : Cx M cc ret own Ts rm mc ms Qc) {off : Int} {tgt : Nat} (hd : decode cc pc = .ok (.goto off, 3)) (ht : (pc : Int) + off = (tgt : Int)) (h : PR M tgt lv st ω kn) : PR M pc lv st ω kn := by
  obtain ⟨p, l, e, R, s, m, args, below, meth, c, V, nL, Q⟩ := M
  intro ls H locs hl hG hS
  exact lv_goto C.1 C.2.1 hd ht (h ls H locs hl hG hS)
theorem Z_icmp_ge (C : Cx M cc ret own Ts rm mc ms Qc) {x y : Int32} {off : Int} {tgt : Nat} (hd : decode cc pc = .ok (.if_icmp .ge off, 3)) (ht : (pc : Int) + off = (tgt : Int)) (kt : y ≤ x → PR M tgt lv st ω kn) (kf : ¬ y ≤ x → PR M (pc + 3) lv st ω kn) : PR M pc lv (.int y :: .int x :: st) ω kn := by
  obtain ⟨p, l, e, R, s, m, args, below, meth, c, V, nL, Q⟩ := M
  intro ls H locs hl hG hS
  exact lv_icmp_ge C.1 C.2.1 hd ht (fun q => kt q ls H locs hl hG hS) (fun q => kf q ls H locs hl hG hS)
theorem Z_sub (ks : List Nat) (hl' : lv_pick lv ks = lv') (h : PR M pc lv' st ω kn) : PR M pc lv st ω kn := by
  obtain ⟨p, l, e, R, s, m, args, below, meth, c, V, nL, Q⟩ := M
  intro ls H locs hl hG hS
  exact h ls H locs (lv_sub hl ks hl') hG hS
theorem Z_tsw (C : Cx M cc ret own Ts rm mc ms Qc) {dflt lo hi : Int} {offs : Array Int} {len : Nat} {x : Int32} (hd : decode cc pc = .ok (.tableswitch dflt lo hi offs, len)) (tgt : Nat) (ht : (pc : Int) + dflt = (tgt : Int)) (ho : x.toInt < lo ∨ hi < x.toInt → PR M tgt lv st ω kn) (hsz : hi - lo + 1 = offs.size)
    (hin : ∀ (i : Nat) (off : Int), offs[i]? = some off → x.toInt = lo + i → PR M ((pc : Int) + off).toNat lv st ω kn ∧ 0 ≤ (pc : Int) + off) : PR M pc lv (.int x :: st) ω kn := by
  obtain ⟨p, l, e, R, s, m, args, below, meth, c, V, nL, Q⟩ := M
  intro ls H locs hl hG hS
  by_cases h : x.toInt < lo ∨ hi < x.toInt
  · exact lv_tableOut C.1 C.2.1 hd h ht (ho h ls H locs hl hG hS)
  · have h1 : ¬ x.toInt < lo := fun q => h (Or.inl q)
    have h2 : ¬ hi < x.toInt := fun q => h (Or.inr q)
    have h3 : (x.toInt - lo).toNat < offs.size := by omega
    obtain ⟨k1, k2⟩ := hin (x.toInt - lo).toNat _ (Array.getElem?_eq_getElem h3) (by omega)
    exact lv_tableIn C.1 C.2.1 hd h1 h2 (Array.getElem?_eq_getElem h3) (Int.toNat_of_nonneg k2).symm (k1 ls H locs hl hG hS)
/-- a final field is set, in a constructor -/
noncomputable def PF (own : String) (Ts : List Cond) (idx ci k : Nat) (rn : String) (ty : FieldType) : Prop := match vwCl[ci]? with
  | some (C, T, N) => k < N ∧ (∀ w ∈ u_ws C T N, w ∈ Ts) ∧ Cond.fieldLink own idx rn (T k).2.1 (T k).2.2.1 ∈ Ts ∧ rn = (T k).1 ∧ (T k).2.2.2 = true ∧ (T k).1 = own ∧ parseFieldDescriptor (T k).2.2.1 = some ty ∧ (∃ ty0 : Nat → FieldType, ∀ k, k < N → parseFieldDescriptor (T k).2.2.1 = some (ty0 k)) ∧ (∀ a, a < N → ∀ b, b < N → a ≠ b → (T a).2.1 ≠ (T b).2.1)
  | none => False
theorem Z_putF (C : Cx M cc ret own Ts rm mc ms Qc) (hI : mI M) {idx ci k a : Nat} {rn : String} {ty : FieldType} (hf : PF own Ts idx ci k rn ty) {fs : List Value} (ha : a ∈ ω.1) (hc : ω.2 a = .inr (ci, fs)) {v : Value} (hn : narrow ty v = v) (hfit : fits ty v = true) (hl9 : k < fs.length) (hd : decode cc pc = .ok (.putfield idx, 3)) (h : PR M (pc + 3) lv st (rput ω a (.inr (ci, fs.set k v))) kn) : PR M pc lv (v :: .ref a :: st) ω kn := by
  obtain ⟨p, l, e, R, s, m, args, below, meth, c, V, nL, Q⟩ := M
  intro ls H locs hl hG hS
  obtain ⟨q0, hq⟩ := rc_at ha
  have hq0 := hq
  rw [hc] at hq
  unfold PF at hf
  cases hcl : vwCl[ci]? with
  | none => rw [hcl] at hf; exact hf.elim
  | some r =>
    obtain ⟨Cn, T, N⟩ := r
    rw [hcl] at hf
    obtain ⟨f1, f2, f3, f4, f5, f9, f6, ⟨ty0, f7⟩, f8⟩ := hf
    refine va_putF (D := vD V) C.1 C.2.1 C.2.2.2.2.1 f2 ty0 f7 f8 C.2.2.2.1 C.2.2.2.2.2.2.2.1 hG.1 hG.2 hS q0 hq hcl k f1 (C.2.2.2.2.1 _ f3) (by subst f4; exact fun _ h => h) f5 hI f9 f6 hn hfit hl9 hd (fun H1 locs1 hP hD hS => ?_)
    rw [rc_put hG.2 hq0] at hP hD
    exact h ls H1 locs1 hl ⟨hP, hD⟩ hS
theorem Z_put (C : Cx M cc ret own Ts rm mc ms Qc) {idx ci k a : Nat} {rn : String} {ty : FieldType} (hf : PA own Ts idx ci k rn ty) {fs : List Value} (ha : a ∈ ω.1) (hc : ω.2 a = .inr (ci, fs)) {v : Value} (hn : narrow ty v = v) (hfit : fits ty v = true) (hl9 : k < fs.length) (hd : decode cc pc = .ok (.putfield idx, 3)) (h : PR M (pc + 3) lv st (rput ω a (.inr (ci, fs.set k v))) kn) : PR M pc lv (v :: .ref a :: st) ω kn := by
  obtain ⟨p, l, e, R, s, m, args, below, meth, c, V, nL, Q⟩ := M
  intro ls H locs hl hG hS
  obtain ⟨q0, hq⟩ := rc_at ha
  have hq0 := hq
  rw [hc] at hq
  unfold PA at hf
  cases hcl : vwCl[ci]? with
  | none => rw [hcl] at hf; exact hf.elim
  | some r =>
    obtain ⟨Cn, T, N⟩ := r
    rw [hcl] at hf
    obtain ⟨f1, f2, f3, f4, f5, f6, ⟨ty0, f7⟩, f8⟩ := hf
    refine va_put (D := vD V) C.1 C.2.1 C.2.2.2.2.1 f2 ty0 f7 f8 C.2.2.2.1 C.2.2.2.2.2.2.2.1 hG.1 hG.2 hS q0 hq hcl k f1 (C.2.2.2.2.1 _ f3) (by subst f4; exact fun _ h => h) f5 f6 hn hfit hl9 hd (fun H1 locs1 hP hD hS => ?_)
    rw [rc_put hG.2 hq0] at hP hD
    exact h ls H1 locs1 hl ⟨hP, hD⟩ hS
theorem Z_get (C : Cx M cc ret own Ts rm mc ms Qc) {idx ci k a : Nat} {rn : String} (hf : FA own Ts idx ci k rn) {fs : List Value} (ha : a ∈ ω.1) (hc : ω.2 a = .inr (ci, fs)) {v : Value} (hv : fs[k]? = some v) (hd : decode cc pc = .ok (.getfield idx, 3)) (h : PR M (pc + 3) lv (v :: st) ω kn) : PR M pc lv (.ref a :: st) ω kn := by
  obtain ⟨p, l, e, R, s, m, args, below, meth, c, V, nL, Q⟩ := M
  intro ls H locs hl hG hS
  obtain ⟨q0, hq⟩ := rc_at ha
  rw [hc] at hq
  unfold FA at hf
  cases hcl : vwCl[ci]? with
  | none => rw [hcl] at hf; exact hf.elim
  | some r =>
    obtain ⟨Cn, T, N⟩ := r
    rw [hcl] at hf
    obtain ⟨f1, f2, f3, f4⟩ := hf
    refine va_get (D := vD V) (v := v) C.1 C.2.1 C.2.2.2.2.1 f2 C.2.2.2.1 C.2.2.2.2.2.2.2.1 hG.1 q0 hq hcl k f1 (C.2.2.2.2.1 _ f3) ?_ hv hd (h ls H locs hl hG hS)
    rcases f4 with f4 | f4
    · subst f4; exact fun _ h => h
    · exact u_same (C.2.2.2.2.1 _ f4)
theorem Z_new (C : Cx M cc ret own Ts rm mc ms Qc) (hU : UPV (mV M)) {idx ci N : Nat} {Cn : String} {T : u_T} {ty : Nat → FieldType} (hcl : vwCl[ci]? = some (Cn, T, N)) (hin : ∀ w ∈ u_ws Cn T N, w ∈ Ts) (hty : ∀ k, k < N → parseFieldDescriptor (T k).2.2.1 = some (ty k)) (h1 : Cond.classLink own idx Cn ∈ Ts) (h2 : Cond.instantiable Cn N ∈ Ts) (h3 : Cond.initialized Cn ∈ Ts) {fs : List Value} (hfs : ∀ j, j < N → defaultValue (ty j) = vp_V fs j) (hc : kn.1 + 1 ≤ rm.cells) (hs : kn.2 + N ≤ rm.slots) (hd : decode cc pc = .ok (.new idx, 3)) (h : ∀ q, q ∉ ω.1 → PR M (pc + 3) lv (.ref q :: st) (rnew ω q (.inr (ci, fs))) (kn.1 + 1, kn.2 + N)) : PR M pc lv st ω kn := by
  obtain ⟨p, l, e, R, s, m, args, below, meth, c, V, nL, Q⟩ := M
  intro ls H locs hl hG hS
  obtain ⟨hx, hb, hml, hown, hts, hr, hlk, hK, rfl, rfl, hw, hX⟩ := C
  refine va_new (D := vD V) hx hb hts hin ty hty hown (hts _ h1) (hts _ h2) (hts _ h3) hK hG.1 hG.2 hS (hU s hX.1).1 hcl hfs hc hs hd (fun q H1 hP hD hS1 => ?_)
  obtain ⟨n1, n2⟩ := rc_new hD
  rw [n2] at hP hD
  exact h q n1 ls H1 locs hl ⟨hP, hD⟩ hS1
theorem Z_newa (C : Cx M cc ret own Ts rm mc ms Qc) (hU : UPV (mV M)) {atype : ArrayType} {ty : FieldType} {t : Nat} (harr : Cond.arrayClass ty ∈ Ts) (hty : newarray.typeOf atype = ty) (htt : (tysV (mV M))[t]? = some (vC (mV M) t, ty)) (hra : ∀ (U : State) (cA : ClassId), va_RA U cA ty → U.vm.findClass ("[" ++ ty.toString) = some cA) {n : Int32} {N' : Nat} {a0 : vp_A} (ha : ∀ cA : ClassId, vp_cell cA a0 = arrV cA N' (fun _ => defaultValue ty)) (hn : ¬ n < 0) (hN : n.toNatClampNeg = N') (hby : N' * componentBytes ty ≤ 536870912) (hc : kn.1 + 1 ≤ rm.cells) (hs : kn.2 + N' ≤ rm.slots) (hd : decode cc pc = .ok (.newarray atype, 2)) (h : ∀ q, q ∉ ω.1 → PR M (pc + 2) lv (.ref q :: st) (rnew ω q (.inl (vC (mV M) t, a0))) (kn.1 + 1, kn.2 + N')) : PR M pc lv (.int n :: st) ω kn := by
  obtain ⟨p, l, e, R, s, m, args, below, meth, c, V, nL, Q⟩ := M
  intro ls H locs hl hG hS
  obtain ⟨hx, hb, hml, hown, hts, hr, hlk, hK, rfl, rfl, hw, hX⟩ := C
  refine va_newa (D := vD V) hx hb (by rw [hty]; exact hts _ harr) hty hK hG.1 hG.2 hS (hU s hX.1).1 ha hn hN hby hc hs hd (fun q cA H1 hK1 hP hD hS1 => ?_)
  have e1 := hra s cA (hK1.2 (tysV V).length _ (by rw [List.getElem?_append_right (Nat.le_refl _), Nat.sub_self]; rfl)).2
  have e2 := hra s (vC V t) (hK.2 t _ htt).2
  have e3 : cA = vC V t := Option.some.inj (e1.symm.trans e2)
  rw [e3] at hP hD
  obtain ⟨n1, n2⟩ := rc_new hD
  rw [n2] at hP hD
  exact h q n1 ls H1 locs hl ⟨hP, hD⟩ hS1
theorem Z_newq (C : Cx M cc ret own Ts rm mc ms Qc) (hU : UPV (mV M)) {idx t : Nat} {Cn : String} (hAO : ∀ U, vX (mV M) U → va_AO Cn U) (htt : (tysV (mV M))[t]? = some (vC (mV M) t, .object Cn)) (h1 : Cond.classLink own idx Cn ∈ Ts) {n : Int32} {N' : Nat} (hn : ¬ n < 0) (hN : n.toNatClampNeg = N') (hby : N' * 4 ≤ 536870912) (hc : kn.1 + 1 ≤ rm.cells) (hs : kn.2 + N' ≤ rm.slots) (hd : decode cc pc = .ok (.anewarray idx, 3)) (h : ∀ q, q ∉ ω.1 → PR M (pc + 3) lv (.ref q :: st) (rnew ω q (.inl (vC (mV M) t, N', .inr (.inr (.inr (.inr (fun _ => none))))))) (kn.1 + 1, kn.2 + N')) : PR M pc lv (.int n :: st) ω kn := by
  obtain ⟨p, l, e, R, s, m, args, below, meth, c, V, nL, Q⟩ := M
  intro ls H locs hl hG hS
  obtain ⟨hx, hb, hml, hown, hts, hr, hlk, hK, rfl, rfl, hw, hX⟩ := C
  refine va_newq (D := vD V) hx hb hown (hts _ h1) (hAO s hX.1) hK hG.1 hG.2 hS (hU s hX.1).1 hn hN hby hc hs hd (fun q cA H1 hK1 hP hD hS1 => ?_)
  obtain ⟨k1, c1, -, -, -, e1⟩ := (hK1.2 (tysV V).length _ (by rw [List.getElem?_append_right (Nat.le_refl _), Nat.sub_self]; rfl)).2
  obtain ⟨k2, c2, -, -, -, e2⟩ := (hK.2 t _ htt).2
  have e3 : cA = vC V t := Option.some.inj (e1.symm.trans e2)
  rw [e3] at hP hD
  obtain ⟨n1, n2⟩ := rc_new hD
  rw [n2] at hP hD
  exact h q n1 ls H1 locs hl ⟨hP, hD⟩ hS1
theorem Z_iast (C : Cx M cc ret own Ts rm mc ms Qc) {a n : Nat} {f : Nat → Int32} {i x : Int32} (ha : a ∈ ω.1) (hc : ω.2 a = .inl (vC (mV M) 0, n, .inl f)) (hin : vp_in i n) (hd : decode cc pc = .ok (.iastore, 1)) (h : PR M (pc + 1) lv st (rput ω a (.inl (vC (mV M) 0, n, .inl (upd f i.toNatClampNeg x)))) kn) : PR M pc lv (.int x :: .int i :: .ref a :: st) ω kn := by
  obtain ⟨p, l, e, R, s, m, args, below, meth, c, V, nL, Q⟩ := M
  intro ls H locs hl hG hS
  obtain ⟨q0, hq⟩ := rc_at ha
  have hq0 := hq
  rw [hc] at hq
  refine va_iast (D := vD V) C.1 C.2.1 C.2.2.2.2.2.2.2.1 hG.1 hG.2 hS q0 0 hq rfl hin hd (fun H1 locs1 hP hD hS => ?_)
  rw [rc_put hG.2 hq0] at hP hD
  exact h ls H1 locs1 hl ⟨hP, hD⟩ hS
theorem Z_aast (C : Cx M cc ret own Ts rm mc ms Qc) {a n t ci v : Nat} {r : vw_C} {vs : List Value} {f : Nat → Option Nat} {i : Int32} (ha : a ∈ ω.1) (hc : ω.2 a = .inl (vC (mV M) t, n, .inr (.inr (.inr (.inr f))))) (htt : (tysV (mV M))[t]? = some (vC (mV M) t, .object r.1)) (hv : v ∈ ω.1) (hcv : ω.2 v = .inr (ci, vs)) (hcl : vwCl[ci]? = some r) (hin : vp_in i n) (hd : decode cc pc = .ok (.aastore, 1)) (h : PR M (pc + 1) lv st (rput ω a (.inl (vC (mV M) t, n, .inr (.inr (.inr (.inr (va_up f i.toNatClampNeg (some v)))))))) kn) : PR M pc lv (.ref v :: .int i :: .ref a :: st) ω kn := by
  obtain ⟨p, l, e, R, s, m, args, below, meth, c, V, nL, Q⟩ := M
  intro ls H locs hl hG hS
  obtain ⟨q0, hq⟩ := rc_at ha
  obtain ⟨q1, hq1⟩ := rc_at hv
  have hq0 := hq
  rw [hc] at hq
  rw [hcv] at hq1
  refine va_astq (D := vD V) C.1 C.2.1 C.2.2.2.2.2.2.2.1 hG.1 hG.2 hS q0 t q1 ci hq htt hq1 hcl hin hd (fun H1 locs1 hP hD hS => ?_)
  rw [rc_put hG.2 hq0] at hP hD
  exact h ls H1 locs1 hl ⟨hP, hD⟩ hS
theorem Z_objInit (C : Cx M cc ret own Ts rm mc ms Qc) {idx a : Nat} (h1 : Cond.methodLink own idx Lib.objectInit ∈ Ts) (h2 : Cond.instanceMethod Lib.objectInit ∈ Ts) (h3 : Cond.code Lib.objectInit ⟨#[0xb1]⟩ 1 none ∈ Ts) (hst : (st.map fun v => v.category).sum + 12 ≤ rm.locals) (hfr : 1 ≤ rm.frames) (hd : decode cc pc = .ok (.invokespecial idx, 3)) (h : PR M (pc + 3) lv st ω kn) : PR M pc lv (.ref a :: st) ω kn := by
  obtain ⟨p, l, e, R, s, m, args, below, meth, c, V, nL, Q⟩ := M
  intro ls H locs hl hG hS
  obtain ⟨hx, hb, hml, hown, hts, hr, hlk, hK, rfl, rfl, hw, hX⟩ := C
  refine W.objInit hx hb hown (hts _ h1) (hts _ h2) (hts _ h3) rfl (by rw [hml]; exact hl.1) rfl hd hfr (by show 2 * 0 + _ + 12 ≤ _; omega) ?_
  exact W.eq (g2 := F0 m (pc + 3) ls st) rfl (h ls H locs hl hG hS)
/-- a constructor is called -/
noncomputable def KI (own : String) (Ts : List Cond) (rm : Room) (idx : Nat) (y : MethodName) (ws : List Cond) (rc : Room) (n : Nat) : Prop :=
  ∃ (bytes : ByteArray) (maxL : Nat) (ws' : List Cond), GoodIn Ts ws ∧ ws = Cond.code y bytes maxL none :: ws' ∧ Cond.initialized y.cls ∈ Ts ∧ Cond.methodLink own idx y ∈ Ts ∧ Cond.instanceMethod y ∈ Ts ∧ y.name = "<init>" ∧ (y.cls ≠ "java/lang/invoke/MethodHandle" ∧ y.cls ≠ "java/lang/invoke/VarHandle" ∧ (parseMethodDescriptor y.desc).map (fun d => d.parameters.length) = some n) ∧ (rc.frames + 1 ≤ rm.frames ∧ 8 + (maxL + 11) + rc.locals ≤ rm.locals)
theorem Z_ci {Qk : RWd → Prop} {idx n b : Nat} {y : MethodName} {ws : List Cond} {As : List Value} (C : Cx M cc ret own Ts rm mc ms Qc) (k : KI own Ts rm idx y ws rc0 n) (hn : As.length = n) (hst : (st.map fun v => v.category).sum ≤ 8) (hd : decode cc pc = .ok (.invokespecial idx, 3)) (hf : kn.1 + rc0.cells ≤ rm.cells ∧ kn.2 + rc0.slots ≤ rm.slots) (hM : Kr (mL M) (mV M) y ws rc0 rc0.cells rc0.slots (.ref b :: As) ω (QRV (mV M) Qk)) (h : ∀ ω', Qk ω' → PR M (pc + 3) lv st ω' (kn.1 + rc0.cells, kn.2 + rc0.slots)) : PR M pc lv (As.reverse ++ .ref b :: st) ω kn := by
  obtain ⟨p, l, e, R, s, m, args, below, meth, c, V, nL, Q⟩ := M
  intro ls H locs hl hG hS
  obtain ⟨hx, hb, hml, hown, hts, hr, hlk, hK, rfl, rfl, hw, hX⟩ := C
  obtain ⟨bytes, maxL, ws', k1, k2, k3, k4, k5, k6, k7, k8⟩ := k
  have hst2 : 2 * (F0 m pc ls (As.reverse ++ .ref b :: st)).monitorRoom + (st.map fun v => v.category).sum ≤ 8 := by show 2 * 0 + _ ≤ 8; omega
  exact va_callv (va_runI (As := As) (b := b) ⟨hx, hb, hml, hown, hts⟩ hM (cwI n hts k1 k2 rfl rfl (hts _ k3) (hts _ k4) (hts _ k5) k6 k7 k8) ⟨GRRblind, fun U hU hW => ⟨rfl, GRR_mk hU hG hK hw hX hS hW⟩⟩ rfl hn hl.1 rfl hst2 hd hf) hS (fun _ _ h => h) (fun _ h => h) (fun u t H1 locs1 ht hvm hq hB hz hk hS1 => by subst ht; exact h u hq ls _ locs1 hl hB.1 hS1)
theorem Z_vret {Qk : RWd → Prop} (C : Cx M cc none own Ts rm mc ms (QRV (mV M) Qk)) (hd : decode cc pc = .ok (.return_, 1)) (h : Qk ω) : PR M pc lv [] ω (mc, ms) := by
  obtain ⟨p, l, e, R, s, m, args, below, meth, c, V, nL, Q⟩ := M
  intro ls H locs hl hG hS
  obtain ⟨hx, hb, hml, hown, hts, hr, hlk, hK, hR, hQ, hw, hX⟩ := C
  have hQ : Q = MQ below (QRV V Qk) args s mc ms (vA V) := hQ
  subst hQ
  exact W.vret hx hb hr (fun t ht hW => ⟨⟨ω, rfl, h, GRR_mk ht hG hK hw hX hS hW⟩, hS.F ht⟩) hS.2.2 hd hlk
theorem Z_aret {Qk : Nat → RWd → Prop} {rt : FieldType} (C : Cx M cc (some rt) own Ts rm mc ms (QRR (mV M) Qk)) (hrt : (∃ n, rt = .object n) ∨ ∃ t, rt = .array t) {x : Nat} (hd : decode cc pc = .ok (.areturn, 1)) (h : Qk x ω) : PR M pc lv [.ref x] ω (mc, ms) := by
  obtain ⟨p, l, e, R, s, m, args, below, meth, c, V, nL, Q⟩ := M
  intro ls H locs hl hG hS
  obtain ⟨hx, hb, hml, hown, hts, hr, hlk, hK, hR, hQ, hw, hX⟩ := C
  have hQ : Q = MQ below (QRR V Qk) args s mc ms (vA V) := hQ
  subst hQ
  exact W.aret (v := .ref x) hx hb hr hrt (Or.inr ⟨_, rfl⟩) (fun t ht hW => ⟨⟨(x, ω), x, rfl, h, rfl, GRR_mk ht hG hK hw hX hS hW⟩, hS.F ht⟩) hS.2.2 hd hlk
end RulesR
/-- the state's cells, raw -/
noncomputable def rwd (V : Vx) (σ : Sg) : RWd := ((ids V).map (va V), fun a => match (ids V).find? (fun i => va V i == a) with
  | some i => ct V σ i
  | none => .inl (0, 0, .inl fun _ => 0))
theorem rwd_ct {V : Vx} {σ : Sg} {A : Nat → Prop} (hD : va_D A (cells V σ)) {id : Nat} (hi : id ∈ ids V) : (rwd V σ).2 (va V id) = ct V σ id := by
  show (match (ids V).find? (fun i => va V i == va V id) with
    | some i => ct V σ i
    | none => _) = _
  cases hf : (ids V).find? (fun i => va V i == va V id) with
  | none => exact absurd (List.find?_eq_none.mp hf id hi) (by simp)
  | some i =>
    have h1 := List.find?_some hf
    have h2 := List.mem_of_find?_eq_some hf
    have h3 : va V i = va V id := by simpa using h1
    rw [va_D_inj hD h2 hi h3]
theorem rwd_rc {V : Vx} {σ : Sg} {A : Nat → Prop} (hD : va_D A (cells V σ)) : rc (rwd V σ) = cells V σ := by
  unfold rc cells
  rw [show (rwd V σ).1 = (ids V).map (va V) from rfl, List.map_map]
  apply List.map_congr_left
  intro id hi
  show (va V id, (rwd V σ).2 (va V id)) = _
  rw [rwd_ct hD hi]
/-! what a constructor does, beside what it has made -/
section RulesY
variable {M : Mx} {cc : ByteArray} {ret : Option FieldType} {own : String} {Ts : List Cond} {rm rc0 : Room} {mc ms : Nat} {Qc : Array Value → State → Outcome → State → Prop} {pc : Nat} {lv lv' : List (Nat × Value)} {st : List Value} {ω0 ω : RWd} {kn : Nat × Nat} {h : Nat} {P : List (Nat × va_E)}
theorem Y_putF (C : Cx M cc ret own Ts rm mc ms Qc) (hI : mI M) {idx ci k : Nat} {rn : String} {ty : FieldType} (hf : PF own Ts idx ci k rn ty) {fs : List Value} (b : BT ω0 ω h P) (hc : ω.2 h = .inr (ci, fs)) {v : Value} (hn : narrow ty v = v) (hfit : fits ty v = true) (hl9 : k < fs.length) (hd : decode cc pc = .ok (.putfield idx, 3)) (kk : ∀ ω', BT ω0 ω' h P → ω'.2 h = .inr (ci, fs.set k v) → PR M (pc + 3) lv st ω' kn) : PR M pc lv (v :: .ref h :: st) ω kn := by
  have q := BT_put (e := .inr (ci, fs.set k v)) b
  exact Z_putF C hI hf (BT_h b) hc hn hfit hl9 hd (kk _ q.1 q.2)
theorem Y_put (C : Cx M cc ret own Ts rm mc ms Qc) {idx ci k : Nat} {rn : String} {ty : FieldType} (hf : PA own Ts idx ci k rn ty) {fs : List Value} (b : BT ω0 ω h P) (hc : ω.2 h = .inr (ci, fs)) {v : Value} (hn : narrow ty v = v) (hfit : fits ty v = true) (hl9 : k < fs.length) (hd : decode cc pc = .ok (.putfield idx, 3)) (kk : ∀ ω', BT ω0 ω' h P → ω'.2 h = .inr (ci, fs.set k v) → PR M (pc + 3) lv st ω' kn) : PR M pc lv (v :: .ref h :: st) ω kn := by
  have q := BT_put (e := .inr (ci, fs.set k v)) b
  exact Z_put C hf (BT_h b) hc hn hfit hl9 hd (kk _ q.1 q.2)
theorem Y_putP (C : Cx M cc ret own Ts rm mc ms Qc) {idx ci k i a : Nat} {rn : String} {ty : FieldType} (hf : PA own Ts idx ci k rn ty) {fs : List Value} (b : BT ω0 ω h P) (hi : P[i]? = some (a, .inr (ci, fs))) {v : Value} (hn : narrow ty v = v) (hfit : fits ty v = true) (hl9 : k < fs.length) (hd : decode cc pc = .ok (.putfield idx, 3)) (kk : ∀ ω', BT ω0 ω' h (P.set i (a, .inr (ci, fs.set k v))) → ω'.2 h = ω.2 h → PR M (pc + 3) lv st ω' kn) : PR M pc lv (v :: .ref a :: st) ω kn := by
  obtain ⟨q1, q2, q3, q4⟩ := BT_set (e' := .inr (ci, fs.set k v)) b hi
  exact Z_put C hf q4 q3 hn hfit hl9 hd (kk _ q1 q2)
theorem Y_newa (C : Cx M cc ret own Ts rm mc ms Qc) (hU : UPV (mV M)) (b : BT ω0 ω h P) {atype : ArrayType} {ty : FieldType} {t : Nat} (harr : Cond.arrayClass ty ∈ Ts) (hty : newarray.typeOf atype = ty) (htt : (tysV (mV M))[t]? = some (vC (mV M) t, ty)) (hra : ∀ (U : State) (cA : ClassId), va_RA U cA ty → U.vm.findClass ("[" ++ ty.toString) = some cA) {n : Int32} {N' : Nat} {a0 : vp_A} (ha : ∀ cA : ClassId, vp_cell cA a0 = arrV cA N' (fun _ => defaultValue ty)) (hn : ¬ n < 0) (hN : n.toNatClampNeg = N') (hby : N' * componentBytes ty ≤ 536870912) (hc : kn.1 + 1 ≤ rm.cells) (hs : kn.2 + N' ≤ rm.slots) (hd : decode cc pc = .ok (.newarray atype, 2)) (kk : ∀ q ω', BT ω0 ω' h (P ++ [(q, .inl (vC (mV M) t, a0))]) → ω'.2 h = ω.2 h → PR M (pc + 2) lv (.ref q :: st) ω' (kn.1 + 1, kn.2 + N')) : PR M pc lv (.int n :: st) ω kn :=
  Z_newa C hU harr hty htt hra ha hn hN hby hc hs hd (fun q hq => kk q _ (BT_new b hq).1 (BT_new b hq).2)
theorem Y_newq (C : Cx M cc ret own Ts rm mc ms Qc) (hU : UPV (mV M)) (b : BT ω0 ω h P) {idx t : Nat} {Cn : String} (hAO : ∀ U, vX (mV M) U → va_AO Cn U) (htt : (tysV (mV M))[t]? = some (vC (mV M) t, .object Cn)) (h1 : Cond.classLink own idx Cn ∈ Ts) {n : Int32} {N' : Nat} (hn : ¬ n < 0) (hN : n.toNatClampNeg = N') (hby : N' * 4 ≤ 536870912) (hc : kn.1 + 1 ≤ rm.cells) (hs : kn.2 + N' ≤ rm.slots) (hd : decode cc pc = .ok (.anewarray idx, 3)) (kk : ∀ q ω', BT ω0 ω' h (P ++ [(q, .inl (vC (mV M) t, N', .inr (.inr (.inr (.inr (fun _ => none))))))]) → ω'.2 h = ω.2 h → PR M (pc + 3) lv (.ref q :: st) ω' (kn.1 + 1, kn.2 + N')) : PR M pc lv (.int n :: st) ω kn :=
  Z_newq C hU hAO htt h1 hn hN hby hc hs hd (fun q hq => kk q _ (BT_new b hq).1 (BT_new b hq).2)
theorem Y_iast (C : Cx M cc ret own Ts rm mc ms Qc) {a n k : Nat} {f : Nat → Int32} {i x : Int32} (b : BT ω0 ω h P) (hi : P[k]? = some (a, .inl (vC (mV M) 0, n, .inl f))) (hin : vp_in i n) (hd : decode cc pc = .ok (.iastore, 1)) (kk : ∀ ω', BT ω0 ω' h (P.set k (a, .inl (vC (mV M) 0, n, .inl (upd f i.toNatClampNeg x)))) → ω'.2 h = ω.2 h → PR M (pc + 1) lv st ω' kn) : PR M pc lv (.int x :: .int i :: .ref a :: st) ω kn := by
  obtain ⟨q1, q2, q3, q4⟩ := BT_set (e' := .inl (vC (mV M) 0, n, .inl (upd f i.toNatClampNeg x))) b hi
  exact Z_iast C q4 q3 hin hd (kk _ q1 q2)
theorem Y_aast (C : Cx M cc ret own Ts rm mc ms Qc) {a n t ci v k k2 : Nat} {r : vw_C} {vs : List Value} {f : Nat → Option Nat} {i : Int32} (b : BT ω0 ω h P) (hi : P[k]? = some (a, .inl (vC (mV M) t, n, .inr (.inr (.inr (.inr f)))))) (htt : (tysV (mV M))[t]? = some (vC (mV M) t, .object r.1)) (hj : P[k2]? = some (v, .inr (ci, vs))) (hcl : vwCl[ci]? = some r) (hin : vp_in i n) (hd : decode cc pc = .ok (.aastore, 1)) (kk : ∀ ω', BT ω0 ω' h (P.set k (a, .inl (vC (mV M) t, n, .inr (.inr (.inr (.inr (va_up f i.toNatClampNeg (some v)))))))) → ω'.2 h = ω.2 h → PR M (pc + 1) lv st ω' kn) : PR M pc lv (.ref v :: .int i :: .ref a :: st) ω kn := by
  obtain ⟨q1, q2, q3, q4⟩ := BT_set (e' := .inl (vC (mV M) t, n, .inr (.inr (.inr (.inr (va_up f i.toNatClampNeg (some v))))))) b hi
  have q5 := b.2.2.2 _ (List.mem_of_getElem? hj)
  exact Z_aast C q4 q3 htt q5.1 q5.2.2 hcl hin hd (kk _ q1 q2)
theorem Y_get (C : Cx M cc ret own Ts rm mc ms Qc) {idx ci k : Nat} {rn : String} (hf : FA own Ts idx ci k rn) {fs : List Value} (b : BT ω0 ω h P) (hc : ω.2 h = .inr (ci, fs)) {v : Value} (hv : fs[k]? = some v) (hd : decode cc pc = .ok (.getfield idx, 3)) (kk : PR M (pc + 3) lv (v :: st) ω kn) : PR M pc lv (.ref h :: st) ω kn :=
  Z_get C hf (BT_h b) hc hv hd kk
end RulesY
noncomputable def rmr (d c s : Nat) : Room := { frames := d, cells := c, slots := s, locals := 40 * d }
noncomputable def ints (V : Vx) (n : Nat) : va_E := .inl (vC V 0, n, .inl (fun _ => 0))
/-- the links to private constructors -/
noncomputable def NWU (U : State) : Prop := va_Nw (.methodLinkNest RX11 11 yX1_init "NineMowers") U ∧ va_Nw (.methodLinkNest RX11 70 yX2_init "NineMowers") U ∧ va_Nw (.methodLinkNest RX11 75 yX9_init "NineMowers") U
theorem NWU_w {s U : State} (hW : s.WarmedH U.vm) (h : NWU s) : NWU U := ⟨va_Nw.warmM hW h.1, va_Nw.warmM hW h.2.1, va_Nw.warmM hW h.2.2⟩
noncomputable def mNW (M : Mx) : Prop := match M with
  | (p, l, e, R, s, m, args, below, meth, c, V, nL, Q) => NWU s
noncomputable abbrev KrN (l : Launch) (V : Vx) (y : MethodName) (ws : List Cond) (rm : Room) (mc ms : Nat) (as : List Value) (ω : RWd) (Qc : Array Value → State → Outcome → State → Prop) : Prop := Met l y ws rm (va_Pc as (fun U => GRR V ω U ∧ NWU U)) Qc mc ms (vA V)
theorem NWU_c {U : State} {g mk a} (h : NWU U) : NWU (U.calling g mk a) := ⟨va_Nw.same rfl rfl h.1, va_Nw.same rfl rfl h.2.1, va_Nw.same rfl rfl h.2.2⟩
theorem GRRblindN {V : Vx} {av : List Value} {ω : RWd} : FrameBlind (va_Pc av (fun U => GRR V ω U ∧ NWU U)) := fun a U g mk q => by
  obtain ⟨q0, ⟨q1, q2, q3, q4, q5⟩, q6⟩ := q
  exact ⟨q0, ⟨q1, va_K.moved (u := U) (U := U.calling g mk a) (Vm.Alike.refl U.vm) q2, q4.1 U _ (Or.inr rfl) (Nat.le_refl _) (fun _ _ _ => rfl) q3, q4, q5⟩, NWU_c q6⟩
theorem KrN_of {l : Launch} {V : Vx} {y : MethodName} {ws ws' : List Cond} {rm : Room} {mc ms : Nat} {cc : ByteArray} {maxL : Nat} {ret : Option FieldType} {own : String} {as : List Value} {ω : RWd} {Qc : Array Value → State → Outcome → State → Prop}
    (hy : plainName y.cls = true) (hw : ws = Cond.code y cc maxL ret :: ws') (ho : y.cls = own) (hlen : (lg_sl as).length ≤ maxL)
    (h : ∀ M : Mx, mL M = l → mV M = V → mN M = maxL → Cx M cc ret own ws rm mc ms Qc → mNW M → (y.name = "<init>" → mI M) → PR M 0 (lv_args 0 as) [] ω (0, 0)) : KrN l V y ws rm mc ms as ω Qc := by
  refine Met.ofW (cc := cc) (maxL := maxL) (ret := ret) hy hw ?_
  intro p e s m args below meth c s1 B hml hv
  obtain ⟨rfl, ⟨hG, hK, hX, hC, hwf⟩, hNW⟩ := hv
  have hown : s.vm.findClass own = some m.cls := by rw [← ho]; exact findClass_of_methodNamed B.named
  have hl := lv_entry as (n := maxL) hlen
  rw [lg_entry_eq]
  exact h (p, l, e, rm, s, m, _, below, meth, c, V, maxL, _) rfl rfl rfl ⟨B.exec, B.bytes, hml, hown, atoms_spec (ws := ws) B.pre, B.returns, B.notSynchronized, hK, rfl, rfl, hwf, hX, hC⟩ hNW (fun hi => (name_of_methodNamed B.named B.method).1.trans hi) _ _ _ hl hG va_S.rf
/-- a private constructor is called -/
noncomputable def KIN (Ts : List Cond) (rm : Room) (y : MethodName) (ws : List Cond) (rc : Room) (n : Nat) : Prop :=
  ∃ (bytes : ByteArray) (maxL : Nat) (ws' : List Cond), GoodIn Ts ws ∧ ws = Cond.code y bytes maxL none :: ws' ∧ Cond.initialized y.cls ∈ Ts ∧ Cond.instanceMethod y ∈ Ts ∧ y.name = "<init>" ∧ (y.cls ≠ "java/lang/invoke/MethodHandle" ∧ y.cls ≠ "java/lang/invoke/VarHandle" ∧ (parseMethodDescriptor y.desc).map (fun d => d.parameters.length) = some n) ∧ (rc.frames + 1 ≤ rm.frames ∧ 8 + (maxL + 11) + rc.locals ≤ rm.locals)
theorem Z_ciN {M : Mx} {cc : ByteArray} {ret : Option FieldType} {own : String} {Ts : List Cond} {rm rc0 : Room} {mc ms : Nat} {Qc : Array Value → State → Outcome → State → Prop} {pc : Nat} {lv : List (Nat × Value)} {st : List Value} {ω : RWd} {kn : Nat × Nat} {Qk : RWd → Prop} {idx n b : Nat} {y : MethodName} {ws : List Cond} {As : List Value} (C : Cx M cc ret own Ts rm mc ms Qc) (k : KIN Ts rm y ws rc0 n) (hl9 : mNW M → match M with | (p, l, e, R, s, m, args, below, meth, c, V, nL, Q) => va_Nw (.methodLinkNest own idx y "NineMowers") s) (hNW : mNW M) (hn : As.length = n) (hst : (st.map fun v => v.category).sum ≤ 8) (hd : decode cc pc = .ok (.invokespecial idx, 3)) (hf : kn.1 + rc0.cells ≤ rm.cells ∧ kn.2 + rc0.slots ≤ rm.slots) (hM : Kr (mL M) (mV M) y ws rc0 rc0.cells rc0.slots (.ref b :: As) ω (QRV (mV M) Qk)) (h : ∀ ω', Qk ω' → PR M (pc + 3) lv st ω' (kn.1 + rc0.cells, kn.2 + rc0.slots)) : PR M pc lv (As.reverse ++ .ref b :: st) ω kn := by
  obtain ⟨p, l, e, R, s, m, args, below, meth, c, V, nL, Q⟩ := M
  intro ls H locs hl hG hS
  have hlk0 := hl9 hNW
  obtain ⟨hx, hb, hml, hown, hts, hr, hlk, hK, rfl, rfl, hw, hX⟩ := C
  obtain ⟨bytes, maxL, ws', k1, k2, k3, k5, k6, k7, k8⟩ := k
  have hst2 : 2 * (F0 m pc ls (As.reverse ++ .ref b :: st)).monitorRoom + (st.map fun v => v.category).sum ≤ 8 := by show 2 * 0 + _ ≤ 8; omega
  exact va_callv (va_runIN (As := As) (b := b) ⟨hx, hb, hml, hown, hts⟩ hM ⟨va_cnB n hts k1 k2 rfl rfl hlk0 (hts _ k3) k7 k8, k6, hts _ k5⟩ ⟨GRRblind, fun U hU hW => ⟨rfl, GRR_mk hU hG hK hw hX hS hW⟩⟩ rfl hn hl.1 rfl hst2 hd hf) hS (fun _ _ h => h) (fun _ h => h) (fun u t H1 locs1 ht hvm hq hB hz hk hS1 => by subst ht; exact h u hq ls _ locs1 hl hB.1 hS1)
theorem dfX0 : ∀ j, j < 3 → defaultValue (tyX0 j) = vp_V [.int 0, .int 0, .int 0] j := fun j hj => by
  match j, hj with
  | 0, _ => rfl
  | 1, _ => rfl
  | 2, _ => rfl
  | n + 3, h => exact absurd h (by omega)
theorem dfX1 : ∀ j, j < 17 → defaultValue (tyX1 j) = vp_V [.null, .int 0, .null, .int 0, .null, .null, .null, .null, .null, .int 0, .null, .int 0, .null, .null, .null, .null, .null] j := fun j hj => by
  match j, hj with
  | 0, _ => rfl
  | 1, _ => rfl
  | 2, _ => rfl
  | 3, _ => rfl
  | 4, _ => rfl
  | 5, _ => rfl
  | 6, _ => rfl
  | 7, _ => rfl
  | 8, _ => rfl
  | 9, _ => rfl
  | 10, _ => rfl
  | 11, _ => rfl
  | 12, _ => rfl
  | 13, _ => rfl
  | 14, _ => rfl
  | 15, _ => rfl
  | 16, _ => rfl
  | n + 17, h => exact absurd h (by omega)
theorem dfX2 : ∀ j, j < 12 → defaultValue (tyX2 j) = vp_V [.int 0, .int 0, .int 0, .null, .int 0, .null, .null, .null, .int 0, .null, .int 0, .int 0] j := fun j hj => by
  match j, hj with
  | 0, _ => rfl
  | 1, _ => rfl
  | 2, _ => rfl
  | 3, _ => rfl
  | 4, _ => rfl
  | 5, _ => rfl
  | 6, _ => rfl
  | 7, _ => rfl
  | 8, _ => rfl
  | 9, _ => rfl
  | 10, _ => rfl
  | 11, _ => rfl
  | n + 12, h => exact absurd h (by omega)
theorem dfX3 : ∀ j, j < 3 → defaultValue (tyX3 j) = vp_V [.int 0, .int 0, .int 0] j := fun j hj => by
  match j, hj with
  | 0, _ => rfl
  | 1, _ => rfl
  | 2, _ => rfl
  | n + 3, h => exact absurd h (by omega)
theorem dfX4 : ∀ j, j < 3 → defaultValue (tyX4 j) = vp_V [.int 0, .int 0, .int 0] j := fun j hj => by
  match j, hj with
  | 0, _ => rfl
  | 1, _ => rfl
  | 2, _ => rfl
  | n + 3, h => exact absurd h (by omega)
theorem dfX5 : ∀ j, j < 2 → defaultValue (tyX5 j) = vp_V [.null, .int 0] j := fun j hj => by
  match j, hj with
  | 0, _ => rfl
  | 1, _ => rfl
  | n + 2, h => exact absurd h (by omega)
theorem dfX6 : ∀ j, j < 3 → defaultValue (tyX6 j) = vp_V [.int 0, .int 0, .int 0] j := fun j hj => by
  match j, hj with
  | 0, _ => rfl
  | 1, _ => rfl
  | 2, _ => rfl
  | n + 3, h => exact absurd h (by omega)
theorem dfX7 : ∀ j, j < 3 → defaultValue (tyX7 j) = vp_V [.int 0, .int 0, .int 0] j := fun j hj => by
  match j, hj with
  | 0, _ => rfl
  | 1, _ => rfl
  | 2, _ => rfl
  | n + 3, h => exact absurd h (by omega)
theorem dfX8 : ∀ j, j < 3 → defaultValue (tyX8 j) = vp_V [.int 0, .int 0, .int 0] j := fun j hj => by
  match j, hj with
  | 0, _ => rfl
  | 1, _ => rfl
  | 2, _ => rfl
  | n + 3, h => exact absurd h (by omega)
theorem dfX9 : ∀ j, j < 3 → defaultValue (tyX9 j) = vp_V [.null, .int 0, .int 0] j := fun j hj => by
  match j, hj with
  | 0, _ => rfl
  | 1, _ => rfl
  | 2, _ => rfl
  | n + 3, h => exact absurd h (by omega)
theorem dfX10 : ∀ j, j < 3 → defaultValue (tyX10 j) = vp_V [.int 0, .int 0, .int 0] j := fun j hj => by
  match j, hj with
  | 0, _ => rfl
  | 1, _ => rfl
  | 2, _ => rfl
  | n + 3, h => exact absurd h (by omega)
theorem dfX11 : ∀ j, j < 13 → defaultValue (tyX11 j) = vp_V [.null, .null, .null, .int 0, .null, .int 0, .null, .int 0, .null, .null, .null, .null, .null] j := fun j hj => by
  match j, hj with
  | 0, _ => rfl
  | 1, _ => rfl
  | 2, _ => rfl
  | 3, _ => rfl
  | 4, _ => rfl
  | 5, _ => rfl
  | 6, _ => rfl
  | 7, _ => rfl
  | 8, _ => rfl
  | 9, _ => rfl
  | 10, _ => rfl
  | 11, _ => rfl
  | 12, _ => rfl
  | n + 13, h => exact absurd h (by omega)
theorem dfX12 : ∀ j, j < 75 → defaultValue (tyX12 j) = vp_V [.int 0, .int 0, .int 0, .null, .null, .null, .null, .null, .null, .null, .null, .int 0, .int 0, .int 0, .int 0, .int 0, .null, .null, .null, .null, .null, .null, .null, .null, .int 0, .int 0, .int 0, .null, .int 0, .null, .int 0, .null, .null, .int 0, .null, .null, .null, .null, .null, .null, .null, .int 0, .null, .null, .null, .int 0, .int 0, .null, .null, .int 0, .int 0, .int 0, .int 0, .int 0, .int 0, .int 0, .null, .null, .null, .null, .null, .null, .null, .null, .null, .null, .null, .null, .null, .int 0, .null, .null, .null, .null, .null] j := fun j hj => by
  match j, hj with
  | 0, _ => rfl
  | 1, _ => rfl
  | 2, _ => rfl
  | 3, _ => rfl
  | 4, _ => rfl
  | 5, _ => rfl
  | 6, _ => rfl
  | 7, _ => rfl
  | 8, _ => rfl
  | 9, _ => rfl
  | 10, _ => rfl
  | 11, _ => rfl
  | 12, _ => rfl
  | 13, _ => rfl
  | 14, _ => rfl
  | 15, _ => rfl
  | 16, _ => rfl
  | 17, _ => rfl
  | 18, _ => rfl
  | 19, _ => rfl
  | 20, _ => rfl
  | 21, _ => rfl
  | 22, _ => rfl
  | 23, _ => rfl
  | 24, _ => rfl
  | 25, _ => rfl
  | 26, _ => rfl
  | 27, _ => rfl
  | 28, _ => rfl
  | 29, _ => rfl
  | 30, _ => rfl
  | 31, _ => rfl
  | 32, _ => rfl
  | 33, _ => rfl
  | 34, _ => rfl
  | 35, _ => rfl
  | 36, _ => rfl
  | 37, _ => rfl
  | 38, _ => rfl
  | 39, _ => rfl
  | 40, _ => rfl
  | 41, _ => rfl
  | 42, _ => rfl
  | 43, _ => rfl
  | 44, _ => rfl
  | 45, _ => rfl
  | 46, _ => rfl
  | 47, _ => rfl
  | 48, _ => rfl
  | 49, _ => rfl
  | 50, _ => rfl
  | 51, _ => rfl
  | 52, _ => rfl
  | 53, _ => rfl
  | 54, _ => rfl
  | 55, _ => rfl
  | 56, _ => rfl
  | 57, _ => rfl
  | 58, _ => rfl
  | 59, _ => rfl
  | 60, _ => rfl
  | 61, _ => rfl
  | 62, _ => rfl
  | 63, _ => rfl
  | 64, _ => rfl
  | 65, _ => rfl
  | 66, _ => rfl
  | 67, _ => rfl
  | 68, _ => rfl
  | 69, _ => rfl
  | 70, _ => rfl
  | 71, _ => rfl
  | 72, _ => rfl
  | 73, _ => rfl
  | 74, _ => rfl
  | n + 75, h => exact absurd h (by omega)
theorem pf_X4_init_7_0 : PF RX4 wsX4_init 7 0 0 "NineMowers$Mower" .int := by
  show _ ∧ _ ∧ _ ∧ _ ∧ _ ∧ _ ∧ _ ∧ _ ∧ _
  exact ⟨by decide +kernel, fun _ h => List.mem_cons_of_mem _ (List.mem_append_left _ (List.mem_append_left _ (List.mem_append_left _ (List.mem_append_left _ (List.mem_append_left _ (List.mem_append_left _ (List.mem_append_right _ h))))))), List.mem_of_getElem? (i := 4) rfl, rfl, rfl, rfl, by decide +kernel, ⟨tyX0, tyX0_ok⟩, nmX0⟩
theorem pf_X4_init_13_0 : PF RX4 wsX4_init 13 0 1 "NineMowers$Mower" .int := by
  show _ ∧ _ ∧ _ ∧ _ ∧ _ ∧ _ ∧ _ ∧ _ ∧ _
  exact ⟨by decide +kernel, fun _ h => List.mem_cons_of_mem _ (List.mem_append_left _ (List.mem_append_left _ (List.mem_append_left _ (List.mem_append_left _ (List.mem_append_left _ (List.mem_append_left _ (List.mem_append_right _ h))))))), List.mem_of_getElem? (i := 5) rfl, rfl, rfl, rfl, by decide +kernel, ⟨tyX0, tyX0_ok⟩, nmX0⟩
theorem pf_X4_init_16_0 : PF RX4 wsX4_init 16 0 2 "NineMowers$Mower" .int := by
  show _ ∧ _ ∧ _ ∧ _ ∧ _ ∧ _ ∧ _ ∧ _ ∧ _
  exact ⟨by decide +kernel, fun _ h => List.mem_cons_of_mem _ (List.mem_append_left _ (List.mem_append_left _ (List.mem_append_left _ (List.mem_append_left _ (List.mem_append_left _ (List.mem_append_left _ (List.mem_append_right _ h))))))), List.mem_of_getElem? (i := 6) rfl, rfl, rfl, rfl, by decide +kernel, ⟨tyX0, tyX0_ok⟩, nmX0⟩
theorem pf_X4_init_7_3 : PF RX4 wsX4_init 7 3 0 "NineMowers$Mower" .int := by
  show _ ∧ _ ∧ _ ∧ _ ∧ _ ∧ _ ∧ _ ∧ _ ∧ _
  exact ⟨by decide +kernel, fun _ h => List.mem_cons_of_mem _ (List.mem_append_left _ (List.mem_append_left _ (List.mem_append_left _ (List.mem_append_left _ (List.mem_append_left _ (List.mem_append_right _ h)))))), List.mem_of_getElem? (i := 4) rfl, rfl, rfl, rfl, by decide +kernel, ⟨tyX3, tyX3_ok⟩, nmX3⟩
theorem pf_X4_init_13_3 : PF RX4 wsX4_init 13 3 1 "NineMowers$Mower" .int := by
  show _ ∧ _ ∧ _ ∧ _ ∧ _ ∧ _ ∧ _ ∧ _ ∧ _
  exact ⟨by decide +kernel, fun _ h => List.mem_cons_of_mem _ (List.mem_append_left _ (List.mem_append_left _ (List.mem_append_left _ (List.mem_append_left _ (List.mem_append_left _ (List.mem_append_right _ h)))))), List.mem_of_getElem? (i := 5) rfl, rfl, rfl, rfl, by decide +kernel, ⟨tyX3, tyX3_ok⟩, nmX3⟩
theorem pf_X4_init_16_3 : PF RX4 wsX4_init 16 3 2 "NineMowers$Mower" .int := by
  show _ ∧ _ ∧ _ ∧ _ ∧ _ ∧ _ ∧ _ ∧ _ ∧ _
  exact ⟨by decide +kernel, fun _ h => List.mem_cons_of_mem _ (List.mem_append_left _ (List.mem_append_left _ (List.mem_append_left _ (List.mem_append_left _ (List.mem_append_left _ (List.mem_append_right _ h)))))), List.mem_of_getElem? (i := 6) rfl, rfl, rfl, rfl, by decide +kernel, ⟨tyX3, tyX3_ok⟩, nmX3⟩
theorem pf_X4_init_7_4 : PF RX4 wsX4_init 7 4 0 "NineMowers$Mower" .int := by
  show _ ∧ _ ∧ _ ∧ _ ∧ _ ∧ _ ∧ _ ∧ _ ∧ _
  exact ⟨by decide +kernel, fun _ h => List.mem_cons_of_mem _ (List.mem_append_left _ (List.mem_append_left _ (List.mem_append_left _ (List.mem_append_left _ (List.mem_append_right _ h))))), List.mem_of_getElem? (i := 4) rfl, rfl, rfl, rfl, by decide +kernel, ⟨tyX4, tyX4_ok⟩, nmX4⟩
theorem pf_X4_init_13_4 : PF RX4 wsX4_init 13 4 1 "NineMowers$Mower" .int := by
  show _ ∧ _ ∧ _ ∧ _ ∧ _ ∧ _ ∧ _ ∧ _ ∧ _
  exact ⟨by decide +kernel, fun _ h => List.mem_cons_of_mem _ (List.mem_append_left _ (List.mem_append_left _ (List.mem_append_left _ (List.mem_append_left _ (List.mem_append_right _ h))))), List.mem_of_getElem? (i := 5) rfl, rfl, rfl, rfl, by decide +kernel, ⟨tyX4, tyX4_ok⟩, nmX4⟩
theorem pf_X4_init_16_4 : PF RX4 wsX4_init 16 4 2 "NineMowers$Mower" .int := by
  show _ ∧ _ ∧ _ ∧ _ ∧ _ ∧ _ ∧ _ ∧ _ ∧ _
  exact ⟨by decide +kernel, fun _ h => List.mem_cons_of_mem _ (List.mem_append_left _ (List.mem_append_left _ (List.mem_append_left _ (List.mem_append_left _ (List.mem_append_right _ h))))), List.mem_of_getElem? (i := 6) rfl, rfl, rfl, rfl, by decide +kernel, ⟨tyX4, tyX4_ok⟩, nmX4⟩
theorem pf_X4_init_7_6 : PF RX4 wsX4_init 7 6 0 "NineMowers$Mower" .int := by
  show _ ∧ _ ∧ _ ∧ _ ∧ _ ∧ _ ∧ _ ∧ _ ∧ _
  exact ⟨by decide +kernel, fun _ h => List.mem_cons_of_mem _ (List.mem_append_left _ (List.mem_append_left _ (List.mem_append_left _ (List.mem_append_right _ h)))), List.mem_of_getElem? (i := 4) rfl, rfl, rfl, rfl, by decide +kernel, ⟨tyX6, tyX6_ok⟩, nmX6⟩
theorem pf_X4_init_13_6 : PF RX4 wsX4_init 13 6 1 "NineMowers$Mower" .int := by
  show _ ∧ _ ∧ _ ∧ _ ∧ _ ∧ _ ∧ _ ∧ _ ∧ _
  exact ⟨by decide +kernel, fun _ h => List.mem_cons_of_mem _ (List.mem_append_left _ (List.mem_append_left _ (List.mem_append_left _ (List.mem_append_right _ h)))), List.mem_of_getElem? (i := 5) rfl, rfl, rfl, rfl, by decide +kernel, ⟨tyX6, tyX6_ok⟩, nmX6⟩
theorem pf_X4_init_16_6 : PF RX4 wsX4_init 16 6 2 "NineMowers$Mower" .int := by
  show _ ∧ _ ∧ _ ∧ _ ∧ _ ∧ _ ∧ _ ∧ _ ∧ _
  exact ⟨by decide +kernel, fun _ h => List.mem_cons_of_mem _ (List.mem_append_left _ (List.mem_append_left _ (List.mem_append_left _ (List.mem_append_right _ h)))), List.mem_of_getElem? (i := 6) rfl, rfl, rfl, rfl, by decide +kernel, ⟨tyX6, tyX6_ok⟩, nmX6⟩
theorem pf_X4_init_7_7 : PF RX4 wsX4_init 7 7 0 "NineMowers$Mower" .int := by
  show _ ∧ _ ∧ _ ∧ _ ∧ _ ∧ _ ∧ _ ∧ _ ∧ _
  exact ⟨by decide +kernel, fun _ h => List.mem_cons_of_mem _ (List.mem_append_left _ (List.mem_append_left _ (List.mem_append_right _ h))), List.mem_of_getElem? (i := 4) rfl, rfl, rfl, rfl, by decide +kernel, ⟨tyX7, tyX7_ok⟩, nmX7⟩
theorem pf_X4_init_13_7 : PF RX4 wsX4_init 13 7 1 "NineMowers$Mower" .int := by
  show _ ∧ _ ∧ _ ∧ _ ∧ _ ∧ _ ∧ _ ∧ _ ∧ _
  exact ⟨by decide +kernel, fun _ h => List.mem_cons_of_mem _ (List.mem_append_left _ (List.mem_append_left _ (List.mem_append_right _ h))), List.mem_of_getElem? (i := 5) rfl, rfl, rfl, rfl, by decide +kernel, ⟨tyX7, tyX7_ok⟩, nmX7⟩
theorem pf_X4_init_16_7 : PF RX4 wsX4_init 16 7 2 "NineMowers$Mower" .int := by
  show _ ∧ _ ∧ _ ∧ _ ∧ _ ∧ _ ∧ _ ∧ _ ∧ _
  exact ⟨by decide +kernel, fun _ h => List.mem_cons_of_mem _ (List.mem_append_left _ (List.mem_append_left _ (List.mem_append_right _ h))), List.mem_of_getElem? (i := 6) rfl, rfl, rfl, rfl, by decide +kernel, ⟨tyX7, tyX7_ok⟩, nmX7⟩
theorem pf_X4_init_7_8 : PF RX4 wsX4_init 7 8 0 "NineMowers$Mower" .int := by
  show _ ∧ _ ∧ _ ∧ _ ∧ _ ∧ _ ∧ _ ∧ _ ∧ _
  exact ⟨by decide +kernel, fun _ h => List.mem_cons_of_mem _ (List.mem_append_left _ (List.mem_append_right _ h)), List.mem_of_getElem? (i := 4) rfl, rfl, rfl, rfl, by decide +kernel, ⟨tyX8, tyX8_ok⟩, nmX8⟩
theorem pf_X4_init_13_8 : PF RX4 wsX4_init 13 8 1 "NineMowers$Mower" .int := by
  show _ ∧ _ ∧ _ ∧ _ ∧ _ ∧ _ ∧ _ ∧ _ ∧ _
  exact ⟨by decide +kernel, fun _ h => List.mem_cons_of_mem _ (List.mem_append_left _ (List.mem_append_right _ h)), List.mem_of_getElem? (i := 5) rfl, rfl, rfl, rfl, by decide +kernel, ⟨tyX8, tyX8_ok⟩, nmX8⟩
theorem pf_X4_init_16_8 : PF RX4 wsX4_init 16 8 2 "NineMowers$Mower" .int := by
  show _ ∧ _ ∧ _ ∧ _ ∧ _ ∧ _ ∧ _ ∧ _ ∧ _
  exact ⟨by decide +kernel, fun _ h => List.mem_cons_of_mem _ (List.mem_append_left _ (List.mem_append_right _ h)), List.mem_of_getElem? (i := 6) rfl, rfl, rfl, rfl, by decide +kernel, ⟨tyX8, tyX8_ok⟩, nmX8⟩
theorem pf_X4_init_7_10 : PF RX4 wsX4_init 7 10 0 "NineMowers$Mower" .int := by
  show _ ∧ _ ∧ _ ∧ _ ∧ _ ∧ _ ∧ _ ∧ _ ∧ _
  exact ⟨by decide +kernel, fun _ h => List.mem_cons_of_mem _ (List.mem_append_right _ h), List.mem_of_getElem? (i := 4) rfl, rfl, rfl, rfl, by decide +kernel, ⟨tyX10, tyX10_ok⟩, nmX10⟩
theorem pf_X4_init_13_10 : PF RX4 wsX4_init 13 10 1 "NineMowers$Mower" .int := by
  show _ ∧ _ ∧ _ ∧ _ ∧ _ ∧ _ ∧ _ ∧ _ ∧ _
  exact ⟨by decide +kernel, fun _ h => List.mem_cons_of_mem _ (List.mem_append_right _ h), List.mem_of_getElem? (i := 5) rfl, rfl, rfl, rfl, by decide +kernel, ⟨tyX10, tyX10_ok⟩, nmX10⟩
theorem pf_X4_init_16_10 : PF RX4 wsX4_init 16 10 2 "NineMowers$Mower" .int := by
  show _ ∧ _ ∧ _ ∧ _ ∧ _ ∧ _ ∧ _ ∧ _ ∧ _
  exact ⟨by decide +kernel, fun _ h => List.mem_cons_of_mem _ (List.mem_append_right _ h), List.mem_of_getElem? (i := 6) rfl, rfl, rfl, rfl, by decide +kernel, ⟨tyX10, tyX10_ok⟩, nmX10⟩
theorem pf_X4_init_7 {ci : Nat} (h : isMc ci) : PF RX4 wsX4_init 7 ci 0 "NineMowers$Mower" .int := by
  rcases h with rfl | rfl | rfl | rfl | rfl | rfl | rfl
  · exact pf_X4_init_7_0
  · exact pf_X4_init_7_3
  · exact pf_X4_init_7_4
  · exact pf_X4_init_7_6
  · exact pf_X4_init_7_7
  · exact pf_X4_init_7_8
  · exact pf_X4_init_7_10
theorem pf_X4_init_13 {ci : Nat} (h : isMc ci) : PF RX4 wsX4_init 13 ci 1 "NineMowers$Mower" .int := by
  rcases h with rfl | rfl | rfl | rfl | rfl | rfl | rfl
  · exact pf_X4_init_13_0
  · exact pf_X4_init_13_3
  · exact pf_X4_init_13_4
  · exact pf_X4_init_13_6
  · exact pf_X4_init_13_7
  · exact pf_X4_init_13_8
  · exact pf_X4_init_13_10
theorem pf_X4_init_16 {ci : Nat} (h : isMc ci) : PF RX4 wsX4_init 16 ci 2 "NineMowers$Mower" .int := by
  rcases h with rfl | rfl | rfl | rfl | rfl | rfl | rfl
  · exact pf_X4_init_16_0
  · exact pf_X4_init_16_3
  · exact pf_X4_init_16_4
  · exact pf_X4_init_16_6
  · exact pf_X4_init_16_7
  · exact pf_X4_init_16_8
  · exact pf_X4_init_16_10
/-- a mower is set up -/
noncomputable def KB (ci : Nat) (k n v : Int32) (ω0 : RWd) (h : Nat) (ω : RWd) : Prop := BT ω0 ω h [] ∧ ω.2 h = .inr (ci, [.int k, .int n, .int v])
set_option maxRecDepth 100000 in
set_option maxHeartbeats 8000000 in
theorem k_X4_init {l : Launch} {V : Vx} {h ci : Nat} {ω0 : RWd} {k n v : Int32} (hm : h ∈ ω0.1) (hci : isMc ci) (c0 : ω0.2 h = .inr (ci, [.int 0, .int 0, .int 0])) : Kr l V yX4_init wsX4_init (rmr 1 0 0) 0 0 [.ref h, .int k, .int n, .int v] ω0 (QRV V (KB ci k n v ω0 h)) := by
  refine Kr_of (by decide +kernel) rfl rfl (Nat.le_of_ble_eq_true rfl) (fun M hl hV hN C hI => ?_)
  subst hl
  subst hV
  replace hI := hI rfl
  have b0 := BT_0 hm
  show PR M 0 [(0, .ref h), (1, .int k), (2, .int n), (3, .int v)] [] ω0 (0, 0)
  refine Z_aload_n C dX4_init_0 0 rfl ?_
  refine Z_objInit C (List.mem_of_getElem? (i := 1) rfl) (List.mem_of_getElem? (i := 2) rfl) (List.mem_of_getElem? (i := 3) rfl) (Nat.le_of_ble_eq_true rfl) (Nat.le_of_ble_eq_true rfl) dX4_init_1 ?_
  refine Z_aload_n C dX4_init_4 0 rfl ?_
  refine Z_iload_n C dX4_init_5 1 rfl ?_
  refine Y_putF C hI (pf_X4_init_7 hci) b0 c0 rfl rfl (Nat.le_of_ble_eq_true rfl) dX4_init_6 (fun ω1 b1 c1 => ?_)
  have c1 : ω1.2 h = .inr (ci, [.int k, .int 0, .int 0]) := c1
  refine Z_aload_n C dX4_init_9 0 rfl ?_
  refine Z_iload_n C dX4_init_10 2 rfl ?_
  refine Y_putF C hI (pf_X4_init_13 hci) b1 c1 rfl rfl (Nat.le_of_ble_eq_true rfl) dX4_init_11 (fun ω2 b2 c2 => ?_)
  have c2 : ω2.2 h = .inr (ci, [.int k, .int n, .int 0]) := c2
  refine Z_aload_n C dX4_init_14 0 rfl ?_
  refine Z_iload_n C dX4_init_15 3 rfl ?_
  refine Y_putF C hI (pf_X4_init_16 hci) b2 c2 rfl rfl (Nat.le_of_ble_eq_true rfl) dX4_init_16 (fun ω3 b3 c3 => ?_)
  have c3 : ω3.2 h = .inr (ci, [.int k, .int n, .int v]) := c3
  exact Z_vret C dX4_init_19 ⟨b3, c3⟩
theorem ki_X8_init_X4_init_1 {c s c2 s2 : Nat} : KI RX8 wsX8_init (rmr 2 c s) 1 yX4_init wsX4_init (rmr 1 c2 s2) 3 := ⟨_, _, _, gX8_init_X4_init, rfl, (List.mem_of_getElem? (i := 3) rfl), (List.mem_of_getElem? (i := 1) rfl), (List.mem_of_getElem? (i := 2) rfl), rfl, by decide +kernel, Nat.le_of_ble_eq_true rfl, Nat.le_of_ble_eq_true rfl⟩
set_option maxRecDepth 100000 in
set_option maxHeartbeats 8000000 in
theorem k_X8_init {l : Launch} {V : Vx} {h ci : Nat} {ω0 : RWd} {k n v : Int32} (hm : h ∈ ω0.1) (hci : isMc ci) (c0 : ω0.2 h = .inr (ci, [.int 0, .int 0, .int 0])) : Kr l V yX8_init wsX8_init (rmr 2 0 0) 0 0 [.ref h, .int k, .int n, .int v] ω0 (QRV V (KB ci k n v ω0 h)) := by
  refine Kr_of (by decide +kernel) rfl rfl (Nat.le_of_ble_eq_true rfl) (fun M hl hV hN C hI => ?_)
  subst hl
  subst hV
  replace hI := hI rfl
  have b0 := BT_0 hm
  show PR M 0 [(0, .ref h), (1, .int k), (2, .int n), (3, .int v)] [] ω0 (0, 0)
  refine Z_aload_n C dX8_init_0 0 rfl ?_
  refine Z_iload_n C dX8_init_1 1 rfl ?_
  refine Z_iload_n C dX8_init_2 2 rfl ?_
  refine Z_iload_n C dX8_init_3 3 rfl ?_
  refine Z_ci (rc0 := rmr 1 0 0) (Qk := KB ci k n v ω0 h) (b := h) (As := [.int k, .int n, .int v]) C ki_X8_init_X4_init_1 rfl (Nat.le_of_ble_eq_true rfl) dX8_init_4 ⟨Nat.le_refl _, Nat.le_refl _⟩ (k_X4_init hm hci c0) (fun ω1 h1 => ?_)
  exact Z_vret C dX8_init_7 h1
theorem ki_X3_init_X4_init_1 {c s c2 s2 : Nat} : KI RX3 wsX3_init (rmr 2 c s) 1 yX4_init wsX4_init (rmr 1 c2 s2) 3 := ⟨_, _, _, gX3_init_X4_init, rfl, (List.mem_of_getElem? (i := 3) rfl), (List.mem_of_getElem? (i := 1) rfl), (List.mem_of_getElem? (i := 2) rfl), rfl, by decide +kernel, Nat.le_of_ble_eq_true rfl, Nat.le_of_ble_eq_true rfl⟩
set_option maxRecDepth 100000 in
set_option maxHeartbeats 8000000 in
theorem k_X3_init {l : Launch} {V : Vx} {h ci : Nat} {ω0 : RWd} {k n v : Int32} (hm : h ∈ ω0.1) (hci : isMc ci) (c0 : ω0.2 h = .inr (ci, [.int 0, .int 0, .int 0])) : Kr l V yX3_init wsX3_init (rmr 2 0 0) 0 0 [.ref h, .int k, .int n, .int v] ω0 (QRV V (KB ci k n v ω0 h)) := by
  refine Kr_of (by decide +kernel) rfl rfl (Nat.le_of_ble_eq_true rfl) (fun M hl hV hN C hI => ?_)
  subst hl
  subst hV
  replace hI := hI rfl
  have b0 := BT_0 hm
  show PR M 0 [(0, .ref h), (1, .int k), (2, .int n), (3, .int v)] [] ω0 (0, 0)
  refine Z_aload_n C dX3_init_0 0 rfl ?_
  refine Z_iload_n C dX3_init_1 1 rfl ?_
  refine Z_iload_n C dX3_init_2 2 rfl ?_
  refine Z_iload_n C dX3_init_3 3 rfl ?_
  refine Z_ci (rc0 := rmr 1 0 0) (Qk := KB ci k n v ω0 h) (b := h) (As := [.int k, .int n, .int v]) C ki_X3_init_X4_init_1 rfl (Nat.le_of_ble_eq_true rfl) dX3_init_4 ⟨Nat.le_refl _, Nat.le_refl _⟩ (k_X4_init hm hci c0) (fun ω1 h1 => ?_)
  exact Z_vret C dX3_init_7 h1
theorem ki_X0_init_X4_init_1 {c s c2 s2 : Nat} : KI RX0 wsX0_init (rmr 2 c s) 1 yX4_init wsX4_init (rmr 1 c2 s2) 3 := ⟨_, _, _, gX0_init_X4_init, rfl, (List.mem_of_getElem? (i := 3) rfl), (List.mem_of_getElem? (i := 1) rfl), (List.mem_of_getElem? (i := 2) rfl), rfl, by decide +kernel, Nat.le_of_ble_eq_true rfl, Nat.le_of_ble_eq_true rfl⟩
set_option maxRecDepth 100000 in
set_option maxHeartbeats 8000000 in
theorem k_X0_init {l : Launch} {V : Vx} {h ci : Nat} {ω0 : RWd} {k n v : Int32} (hm : h ∈ ω0.1) (hci : isMc ci) (c0 : ω0.2 h = .inr (ci, [.int 0, .int 0, .int 0])) : Kr l V yX0_init wsX0_init (rmr 2 0 0) 0 0 [.ref h, .int k, .int n, .int v] ω0 (QRV V (KB ci k n v ω0 h)) := by
  refine Kr_of (by decide +kernel) rfl rfl (Nat.le_of_ble_eq_true rfl) (fun M hl hV hN C hI => ?_)
  subst hl
  subst hV
  replace hI := hI rfl
  have b0 := BT_0 hm
  show PR M 0 [(0, .ref h), (1, .int k), (2, .int n), (3, .int v)] [] ω0 (0, 0)
  refine Z_aload_n C dX0_init_0 0 rfl ?_
  refine Z_iload_n C dX0_init_1 1 rfl ?_
  refine Z_iload_n C dX0_init_2 2 rfl ?_
  refine Z_iload_n C dX0_init_3 3 rfl ?_
  refine Z_ci (rc0 := rmr 1 0 0) (Qk := KB ci k n v ω0 h) (b := h) (As := [.int k, .int n, .int v]) C ki_X0_init_X4_init_1 rfl (Nat.le_of_ble_eq_true rfl) dX0_init_4 ⟨Nat.le_refl _, Nat.le_refl _⟩ (k_X4_init hm hci c0) (fun ω1 h1 => ?_)
  exact Z_vret C dX0_init_7 h1
theorem ki_X6_init_X8_init_1 {c s c2 s2 : Nat} : KI RX6 wsX6_init (rmr 3 c s) 1 yX8_init wsX8_init (rmr 2 c2 s2) 3 := ⟨_, _, _, gX6_init_X8_init, rfl, (List.mem_of_getElem? (i := 3) rfl), (List.mem_of_getElem? (i := 1) rfl), (List.mem_of_getElem? (i := 2) rfl), rfl, by decide +kernel, Nat.le_of_ble_eq_true rfl, Nat.le_of_ble_eq_true rfl⟩
set_option maxRecDepth 100000 in
set_option maxHeartbeats 8000000 in
theorem k_X6_init {l : Launch} {V : Vx} {h ci : Nat} {ω0 : RWd} {k n v : Int32} (hm : h ∈ ω0.1) (hci : isMc ci) (c0 : ω0.2 h = .inr (ci, [.int 0, .int 0, .int 0])) : Kr l V yX6_init wsX6_init (rmr 3 0 0) 0 0 [.ref h, .int k, .int n, .int v] ω0 (QRV V (KB ci k n v ω0 h)) := by
  refine Kr_of (by decide +kernel) rfl rfl (Nat.le_of_ble_eq_true rfl) (fun M hl hV hN C hI => ?_)
  subst hl
  subst hV
  replace hI := hI rfl
  have b0 := BT_0 hm
  show PR M 0 [(0, .ref h), (1, .int k), (2, .int n), (3, .int v)] [] ω0 (0, 0)
  refine Z_aload_n C dX6_init_0 0 rfl ?_
  refine Z_iload_n C dX6_init_1 1 rfl ?_
  refine Z_iload_n C dX6_init_2 2 rfl ?_
  refine Z_iload_n C dX6_init_3 3 rfl ?_
  refine Z_ci (rc0 := rmr 2 0 0) (Qk := KB ci k n v ω0 h) (b := h) (As := [.int k, .int n, .int v]) C ki_X6_init_X8_init_1 rfl (Nat.le_of_ble_eq_true rfl) dX6_init_4 ⟨Nat.le_refl _, Nat.le_refl _⟩ (k_X8_init hm hci c0) (fun ω1 h1 => ?_)
  exact Z_vret C dX6_init_7 h1
theorem ki_X7_init_X3_init_1 {c s c2 s2 : Nat} : KI RX7 wsX7_init (rmr 3 c s) 1 yX3_init wsX3_init (rmr 2 c2 s2) 3 := ⟨_, _, _, gX7_init_X3_init, rfl, (List.mem_of_getElem? (i := 3) rfl), (List.mem_of_getElem? (i := 1) rfl), (List.mem_of_getElem? (i := 2) rfl), rfl, by decide +kernel, Nat.le_of_ble_eq_true rfl, Nat.le_of_ble_eq_true rfl⟩
set_option maxRecDepth 100000 in
set_option maxHeartbeats 8000000 in
theorem k_X7_init {l : Launch} {V : Vx} {h ci : Nat} {ω0 : RWd} {k n v : Int32} (hm : h ∈ ω0.1) (hci : isMc ci) (c0 : ω0.2 h = .inr (ci, [.int 0, .int 0, .int 0])) : Kr l V yX7_init wsX7_init (rmr 3 0 0) 0 0 [.ref h, .int k, .int n, .int v] ω0 (QRV V (KB ci k n v ω0 h)) := by
  refine Kr_of (by decide +kernel) rfl rfl (Nat.le_of_ble_eq_true rfl) (fun M hl hV hN C hI => ?_)
  subst hl
  subst hV
  replace hI := hI rfl
  have b0 := BT_0 hm
  show PR M 0 [(0, .ref h), (1, .int k), (2, .int n), (3, .int v)] [] ω0 (0, 0)
  refine Z_aload_n C dX7_init_0 0 rfl ?_
  refine Z_iload_n C dX7_init_1 1 rfl ?_
  refine Z_iload_n C dX7_init_2 2 rfl ?_
  refine Z_iload_n C dX7_init_3 3 rfl ?_
  refine Z_ci (rc0 := rmr 2 0 0) (Qk := KB ci k n v ω0 h) (b := h) (As := [.int k, .int n, .int v]) C ki_X7_init_X3_init_1 rfl (Nat.le_of_ble_eq_true rfl) dX7_init_4 ⟨Nat.le_refl _, Nat.le_refl _⟩ (k_X3_init hm hci c0) (fun ω1 h1 => ?_)
  exact Z_vret C dX7_init_7 h1
theorem ki_X10_init_X0_init_1 {c s c2 s2 : Nat} : KI RX10 wsX10_init (rmr 3 c s) 1 yX0_init wsX0_init (rmr 2 c2 s2) 3 := ⟨_, _, _, gX10_init_X0_init, rfl, (List.mem_of_getElem? (i := 3) rfl), (List.mem_of_getElem? (i := 1) rfl), (List.mem_of_getElem? (i := 2) rfl), rfl, by decide +kernel, Nat.le_of_ble_eq_true rfl, Nat.le_of_ble_eq_true rfl⟩
set_option maxRecDepth 100000 in
set_option maxHeartbeats 8000000 in
theorem k_X10_init {l : Launch} {V : Vx} {h ci : Nat} {ω0 : RWd} {k n v : Int32} (hm : h ∈ ω0.1) (hci : isMc ci) (c0 : ω0.2 h = .inr (ci, [.int 0, .int 0, .int 0])) : Kr l V yX10_init wsX10_init (rmr 3 0 0) 0 0 [.ref h, .int k, .int n, .int v] ω0 (QRV V (KB ci k n v ω0 h)) := by
  refine Kr_of (by decide +kernel) rfl rfl (Nat.le_of_ble_eq_true rfl) (fun M hl hV hN C hI => ?_)
  subst hl
  subst hV
  replace hI := hI rfl
  have b0 := BT_0 hm
  show PR M 0 [(0, .ref h), (1, .int k), (2, .int n), (3, .int v)] [] ω0 (0, 0)
  refine Z_aload_n C dX10_init_0 0 rfl ?_
  refine Z_iload_n C dX10_init_1 1 rfl ?_
  refine Z_iload_n C dX10_init_2 2 rfl ?_
  refine Z_iload_n C dX10_init_3 3 rfl ?_
  refine Z_ci (rc0 := rmr 2 0 0) (Qk := KB ci k n v ω0 h) (b := h) (As := [.int k, .int n, .int v]) C ki_X10_init_X0_init_1 rfl (Nat.le_of_ble_eq_true rfl) dX10_init_4 ⟨Nat.le_refl _, Nat.le_refl _⟩ (k_X0_init hm hci c0) (fun ω1 h1 => ?_)
  exact Z_vret C dX10_init_7 h1
/-- a number's kind among the kinds of objects -/
noncomputable def kci (k : Int32) : Nat := if k.toInt = 1 then 8 else if k.toInt = 2 then 3 else if k.toInt = 3 then 0 else if k.toInt = 4 then 6 else if k.toInt = 5 then 7 else if k.toInt = 6 then 10 else 4
theorem kci_mc (k : Int32) : isMc (kci k) := by
  unfold kci
  repeat' split
  all_goals decide
theorem kci_0 {k : Int32} (h : k.toInt < 1 ∨ 6 < k.toInt) : kci k = 4 := by
  unfold kci
  rw [if_neg (by omega), if_neg (by omega), if_neg (by omega), if_neg (by omega), if_neg (by omega), if_neg (by omega)]
theorem kci_1 {k : Int32} (h : k.toInt = 1) : kci k = 8 := by
  unfold kci
  rw [if_pos h]
theorem kci_2 {k : Int32} (h : k.toInt = 2) : kci k = 3 := by
  unfold kci
  rw [if_neg (by omega), if_pos h]
theorem kci_3 {k : Int32} (h : k.toInt = 3) : kci k = 0 := by
  unfold kci
  rw [if_neg (by omega), if_neg (by omega), if_pos h]
theorem kci_4 {k : Int32} (h : k.toInt = 4) : kci k = 6 := by
  unfold kci
  rw [if_neg (by omega), if_neg (by omega), if_neg (by omega), if_pos h]
theorem kci_5 {k : Int32} (h : k.toInt = 5) : kci k = 7 := by
  unfold kci
  rw [if_neg (by omega), if_neg (by omega), if_neg (by omega), if_neg (by omega), if_pos h]
theorem kci_6 {k : Int32} (h : k.toInt = 6) : kci k = 10 := by
  unfold kci
  rw [if_neg (by omega), if_neg (by omega), if_neg (by omega), if_neg (by omega), if_neg (by omega), if_pos h]
/-- a mower is made: it is there, apart from all that was, which stays -/
noncomputable def GB (k n v : Int32) (ω0 : RWd) (q : Nat) (ω : RWd) : Prop := q ∉ ω0.1 ∧ q ∈ ω.1 ∧ (∀ a ∈ ω0.1, a ∈ ω.1 ∧ ω.2 a = ω0.2 a) ∧ ω.2 q = .inr (kci k, [.int k, .int n, .int v])
theorem GB_mk {ω0 ω : RWd} {q ci : Nat} {k n v : Int32} (hq : q ∉ ω0.1) (h : KB ci k n v (rnew ω0 q (.inr (ci, [.int 0, .int 0, .int 0]))) q ω) (hk : kci k = ci) : GB k n v ω0 q ω := by
  obtain ⟨⟨b1, b2, b3, b4⟩, c⟩ := h
  refine ⟨hq, (b2 q b1).1, fun a ha => ?_, by rw [hk]; exact c⟩
  have hne : a ≠ q := fun z => hq (z ▸ ha)
  have h2 := b2 a (List.mem_append_left _ ha)
  refine ⟨h2.1, (h2.2 hne).trans ?_⟩
  show va_up ω0.2 q _ a = _
  rw [va_up_ne _ _ hne]
theorem ki_X11_made_X4_init_109 {c s c2 s2 : Nat} : KI RX11 wsX11_made (rmr 4 c s) 109 yX4_init wsX4_init (rmr 1 c2 s2) 3 := ⟨_, _, _, gX11_made_X4_init, rfl, (List.mem_of_getElem? (i := 21) rfl), (List.mem_of_getElem? (i := 54) rfl), (List.mem_of_getElem? (i := 26) rfl), rfl, by decide +kernel, Nat.le_of_ble_eq_true rfl, Nat.le_of_ble_eq_true rfl⟩
theorem ki_X11_made_X8_init_89 {c s c2 s2 : Nat} : KI RX11 wsX11_made (rmr 4 c s) 89 yX8_init wsX8_init (rmr 2 c2 s2) 3 := ⟨_, _, _, gX11_made_X8_init, rfl, (List.mem_of_getElem? (i := 3) rfl), (List.mem_of_getElem? (i := 22) rfl), (List.mem_of_getElem? (i := 23) rfl), rfl, by decide +kernel, Nat.le_of_ble_eq_true rfl, Nat.le_of_ble_eq_true rfl⟩
theorem ki_X11_made_X3_init_94 {c s c2 s2 : Nat} : KI RX11 wsX11_made (rmr 4 c s) 94 yX3_init wsX3_init (rmr 2 c2 s2) 3 := ⟨_, _, _, gX11_made_X3_init, rfl, (List.mem_of_getElem? (i := 6) rfl), (List.mem_of_getElem? (i := 34) rfl), (List.mem_of_getElem? (i := 35) rfl), rfl, by decide +kernel, Nat.le_of_ble_eq_true rfl, Nat.le_of_ble_eq_true rfl⟩
theorem ki_X11_made_X0_init_97 {c s c2 s2 : Nat} : KI RX11 wsX11_made (rmr 4 c s) 97 yX0_init wsX0_init (rmr 2 c2 s2) 3 := ⟨_, _, _, gX11_made_X0_init, rfl, (List.mem_of_getElem? (i := 9) rfl), (List.mem_of_getElem? (i := 38) rfl), (List.mem_of_getElem? (i := 39) rfl), rfl, by decide +kernel, Nat.le_of_ble_eq_true rfl, Nat.le_of_ble_eq_true rfl⟩
theorem ki_X11_made_X6_init_100 {c s c2 s2 : Nat} : KI RX11 wsX11_made (rmr 4 c s) 100 yX6_init wsX6_init (rmr 3 c2 s2) 3 := ⟨_, _, _, gX11_made_X6_init, rfl, (List.mem_of_getElem? (i := 12) rfl), (List.mem_of_getElem? (i := 42) rfl), (List.mem_of_getElem? (i := 43) rfl), rfl, by decide +kernel, Nat.le_of_ble_eq_true rfl, Nat.le_of_ble_eq_true rfl⟩
theorem ki_X11_made_X7_init_103 {c s c2 s2 : Nat} : KI RX11 wsX11_made (rmr 4 c s) 103 yX7_init wsX7_init (rmr 3 c2 s2) 3 := ⟨_, _, _, gX11_made_X7_init, rfl, (List.mem_of_getElem? (i := 15) rfl), (List.mem_of_getElem? (i := 46) rfl), (List.mem_of_getElem? (i := 47) rfl), rfl, by decide +kernel, Nat.le_of_ble_eq_true rfl, Nat.le_of_ble_eq_true rfl⟩
theorem ki_X11_made_X10_init_106 {c s c2 s2 : Nat} : KI RX11 wsX11_made (rmr 4 c s) 106 yX10_init wsX10_init (rmr 3 c2 s2) 3 := ⟨_, _, _, gX11_made_X10_init, rfl, (List.mem_of_getElem? (i := 18) rfl), (List.mem_of_getElem? (i := 50) rfl), (List.mem_of_getElem? (i := 51) rfl), rfl, by decide +kernel, Nat.le_of_ble_eq_true rfl, Nat.le_of_ble_eq_true rfl⟩
set_option maxRecDepth 100000 in
set_option maxHeartbeats 8000000 in
theorem k_X11_made {l : Launch} {V : Vx} {ω0 : RWd} {k n v : Int32} (hU : UPV V) : Kr l V yX11_made wsX11_made (rmr 4 1 3) 1 3 [.int k, .int n, .int v] ω0 (QRR V (GB k n v ω0)) := by
  refine Kr_of (by decide +kernel) rfl rfl (Nat.le_of_ble_eq_true rfl) (fun M hl hV hN C _ => ?_)
  subst hl
  subst hV
  show PR M 0 [(0, .int k), (1, .int n), (2, .int v)] [] ω0 (0, 0)
  refine Z_iload_n C dX11_made_0 0 rfl ?_
  refine Z_tsw C dX11_made_1 106 (by decide +kernel) (fun hk => ?_) (by decide +kernel) (fun i off ho hk => ?_)
  · refine Z_new (fs := [.int 0, .int 0, .int 0]) C hU (ci := 4) rfl (fun _ h => List.mem_cons_of_mem _ (List.mem_append_right _ h)) tyX4_ok (List.mem_of_getElem? (i := 19) rfl) (List.mem_of_getElem? (i := 20) rfl) (List.mem_of_getElem? (i := 21) rfl) dfX4 (Nat.le_of_ble_eq_true rfl) (Nat.le_of_ble_eq_true rfl) dX11_made_106 (fun q hq => ?_)
    refine Z_dup C dX11_made_109 rfl ?_
    refine Z_iload_n C dX11_made_110 0 rfl ?_
    refine Z_iload_n C dX11_made_111 1 rfl ?_
    refine Z_iload_n C dX11_made_112 2 rfl ?_
    refine Z_ci (rc0 := rmr 1 0 0) (Qk := KB 4 k n v (rnew ω0 q (.inr (4, [.int 0, .int 0, .int 0]))) q) (b := q) (As := [.int k, .int n, .int v]) C ki_X11_made_X4_init_109 rfl (Nat.le_of_ble_eq_true rfl) dX11_made_113 ⟨Nat.le_of_ble_eq_true rfl, Nat.le_of_ble_eq_true rfl⟩ (k_X4_init (List.mem_append_right _ (List.mem_singleton.mpr rfl)) (by decide +kernel) (va_up_self _ _ _)) (fun ω1 h1 => ?_)
    refine Z_aret C (Or.inl ⟨_, rfl⟩) dX11_made_116 ?_
    exact GB_mk hq h1 (kci_0 hk)
  · rcases i with _ | _ | _ | _ | _ | _ | i
    · obtain rfl : (39 : Int) = off := Option.some.inj ho
      refine ⟨?_, by decide +kernel⟩
      show PR M 40 _ _ _ _
      have hk : k.toInt = 1 := by simp at hk; omega
      refine Z_new (fs := [.int 0, .int 0, .int 0]) C hU (ci := 8) rfl (fun _ h => List.mem_cons_of_mem _ (List.mem_append_left _ (List.mem_append_left _ (List.mem_append_left _ (List.mem_append_left _ (List.mem_append_left _ (List.mem_append_left _ (List.mem_append_right _ h)))))))) tyX8_ok (List.mem_of_getElem? (i := 1) rfl) (List.mem_of_getElem? (i := 2) rfl) (List.mem_of_getElem? (i := 3) rfl) dfX8 (Nat.le_of_ble_eq_true rfl) (Nat.le_of_ble_eq_true rfl) dX11_made_40 (fun q hq => ?_)
      refine Z_dup C dX11_made_43 rfl ?_
      refine Z_iload_n C dX11_made_44 0 rfl ?_
      refine Z_iload_n C dX11_made_45 1 rfl ?_
      refine Z_iload_n C dX11_made_46 2 rfl ?_
      refine Z_ci (rc0 := rmr 2 0 0) (Qk := KB 8 k n v (rnew ω0 q (.inr (8, [.int 0, .int 0, .int 0]))) q) (b := q) (As := [.int k, .int n, .int v]) C ki_X11_made_X8_init_89 rfl (Nat.le_of_ble_eq_true rfl) dX11_made_47 ⟨Nat.le_of_ble_eq_true rfl, Nat.le_of_ble_eq_true rfl⟩ (k_X8_init (List.mem_append_right _ (List.mem_singleton.mpr rfl)) (by decide +kernel) (va_up_self _ _ _)) (fun ω1 h1 => ?_)
      refine Z_aret C (Or.inl ⟨_, rfl⟩) dX11_made_50 ?_
      exact GB_mk hq h1 (kci_1 hk)
    · obtain rfl : (50 : Int) = off := Option.some.inj ho
      refine ⟨?_, by decide +kernel⟩
      show PR M 51 _ _ _ _
      have hk : k.toInt = 2 := by simp at hk; omega
      refine Z_new (fs := [.int 0, .int 0, .int 0]) C hU (ci := 3) rfl (fun _ h => List.mem_cons_of_mem _ (List.mem_append_left _ (List.mem_append_left _ (List.mem_append_left _ (List.mem_append_left _ (List.mem_append_left _ (List.mem_append_right _ h))))))) tyX3_ok (List.mem_of_getElem? (i := 4) rfl) (List.mem_of_getElem? (i := 5) rfl) (List.mem_of_getElem? (i := 6) rfl) dfX3 (Nat.le_of_ble_eq_true rfl) (Nat.le_of_ble_eq_true rfl) dX11_made_51 (fun q hq => ?_)
      refine Z_dup C dX11_made_54 rfl ?_
      refine Z_iload_n C dX11_made_55 0 rfl ?_
      refine Z_iload_n C dX11_made_56 1 rfl ?_
      refine Z_iload_n C dX11_made_57 2 rfl ?_
      refine Z_ci (rc0 := rmr 2 0 0) (Qk := KB 3 k n v (rnew ω0 q (.inr (3, [.int 0, .int 0, .int 0]))) q) (b := q) (As := [.int k, .int n, .int v]) C ki_X11_made_X3_init_94 rfl (Nat.le_of_ble_eq_true rfl) dX11_made_58 ⟨Nat.le_of_ble_eq_true rfl, Nat.le_of_ble_eq_true rfl⟩ (k_X3_init (List.mem_append_right _ (List.mem_singleton.mpr rfl)) (by decide +kernel) (va_up_self _ _ _)) (fun ω1 h1 => ?_)
      refine Z_aret C (Or.inl ⟨_, rfl⟩) dX11_made_61 ?_
      exact GB_mk hq h1 (kci_2 hk)
    · obtain rfl : (61 : Int) = off := Option.some.inj ho
      refine ⟨?_, by decide +kernel⟩
      show PR M 62 _ _ _ _
      have hk : k.toInt = 3 := by simp at hk; omega
      refine Z_new (fs := [.int 0, .int 0, .int 0]) C hU (ci := 0) rfl (fun _ h => List.mem_cons_of_mem _ (List.mem_append_left _ (List.mem_append_left _ (List.mem_append_left _ (List.mem_append_left _ (List.mem_append_right _ h)))))) tyX0_ok (List.mem_of_getElem? (i := 7) rfl) (List.mem_of_getElem? (i := 8) rfl) (List.mem_of_getElem? (i := 9) rfl) dfX0 (Nat.le_of_ble_eq_true rfl) (Nat.le_of_ble_eq_true rfl) dX11_made_62 (fun q hq => ?_)
      refine Z_dup C dX11_made_65 rfl ?_
      refine Z_iload_n C dX11_made_66 0 rfl ?_
      refine Z_iload_n C dX11_made_67 1 rfl ?_
      refine Z_iload_n C dX11_made_68 2 rfl ?_
      refine Z_ci (rc0 := rmr 2 0 0) (Qk := KB 0 k n v (rnew ω0 q (.inr (0, [.int 0, .int 0, .int 0]))) q) (b := q) (As := [.int k, .int n, .int v]) C ki_X11_made_X0_init_97 rfl (Nat.le_of_ble_eq_true rfl) dX11_made_69 ⟨Nat.le_of_ble_eq_true rfl, Nat.le_of_ble_eq_true rfl⟩ (k_X0_init (List.mem_append_right _ (List.mem_singleton.mpr rfl)) (by decide +kernel) (va_up_self _ _ _)) (fun ω1 h1 => ?_)
      refine Z_aret C (Or.inl ⟨_, rfl⟩) dX11_made_72 ?_
      exact GB_mk hq h1 (kci_3 hk)
    · obtain rfl : (72 : Int) = off := Option.some.inj ho
      refine ⟨?_, by decide +kernel⟩
      show PR M 73 _ _ _ _
      have hk : k.toInt = 4 := by simp at hk; omega
      refine Z_new (fs := [.int 0, .int 0, .int 0]) C hU (ci := 6) rfl (fun _ h => List.mem_cons_of_mem _ (List.mem_append_left _ (List.mem_append_left _ (List.mem_append_left _ (List.mem_append_right _ h))))) tyX6_ok (List.mem_of_getElem? (i := 10) rfl) (List.mem_of_getElem? (i := 11) rfl) (List.mem_of_getElem? (i := 12) rfl) dfX6 (Nat.le_of_ble_eq_true rfl) (Nat.le_of_ble_eq_true rfl) dX11_made_73 (fun q hq => ?_)
      refine Z_dup C dX11_made_76 rfl ?_
      refine Z_iload_n C dX11_made_77 0 rfl ?_
      refine Z_iload_n C dX11_made_78 1 rfl ?_
      refine Z_iload_n C dX11_made_79 2 rfl ?_
      refine Z_ci (rc0 := rmr 3 0 0) (Qk := KB 6 k n v (rnew ω0 q (.inr (6, [.int 0, .int 0, .int 0]))) q) (b := q) (As := [.int k, .int n, .int v]) C ki_X11_made_X6_init_100 rfl (Nat.le_of_ble_eq_true rfl) dX11_made_80 ⟨Nat.le_of_ble_eq_true rfl, Nat.le_of_ble_eq_true rfl⟩ (k_X6_init (List.mem_append_right _ (List.mem_singleton.mpr rfl)) (by decide +kernel) (va_up_self _ _ _)) (fun ω1 h1 => ?_)
      refine Z_aret C (Or.inl ⟨_, rfl⟩) dX11_made_83 ?_
      exact GB_mk hq h1 (kci_4 hk)
    · obtain rfl : (83 : Int) = off := Option.some.inj ho
      refine ⟨?_, by decide +kernel⟩
      show PR M 84 _ _ _ _
      have hk : k.toInt = 5 := by simp at hk; omega
      refine Z_new (fs := [.int 0, .int 0, .int 0]) C hU (ci := 7) rfl (fun _ h => List.mem_cons_of_mem _ (List.mem_append_left _ (List.mem_append_left _ (List.mem_append_right _ h)))) tyX7_ok (List.mem_of_getElem? (i := 13) rfl) (List.mem_of_getElem? (i := 14) rfl) (List.mem_of_getElem? (i := 15) rfl) dfX7 (Nat.le_of_ble_eq_true rfl) (Nat.le_of_ble_eq_true rfl) dX11_made_84 (fun q hq => ?_)
      refine Z_dup C dX11_made_87 rfl ?_
      refine Z_iload_n C dX11_made_88 0 rfl ?_
      refine Z_iload_n C dX11_made_89 1 rfl ?_
      refine Z_iload_n C dX11_made_90 2 rfl ?_
      refine Z_ci (rc0 := rmr 3 0 0) (Qk := KB 7 k n v (rnew ω0 q (.inr (7, [.int 0, .int 0, .int 0]))) q) (b := q) (As := [.int k, .int n, .int v]) C ki_X11_made_X7_init_103 rfl (Nat.le_of_ble_eq_true rfl) dX11_made_91 ⟨Nat.le_of_ble_eq_true rfl, Nat.le_of_ble_eq_true rfl⟩ (k_X7_init (List.mem_append_right _ (List.mem_singleton.mpr rfl)) (by decide +kernel) (va_up_self _ _ _)) (fun ω1 h1 => ?_)
      refine Z_aret C (Or.inl ⟨_, rfl⟩) dX11_made_94 ?_
      exact GB_mk hq h1 (kci_5 hk)
    · obtain rfl : (94 : Int) = off := Option.some.inj ho
      refine ⟨?_, by decide +kernel⟩
      show PR M 95 _ _ _ _
      have hk : k.toInt = 6 := by simp at hk; omega
      refine Z_new (fs := [.int 0, .int 0, .int 0]) C hU (ci := 10) rfl (fun _ h => List.mem_cons_of_mem _ (List.mem_append_left _ (List.mem_append_right _ h))) tyX10_ok (List.mem_of_getElem? (i := 16) rfl) (List.mem_of_getElem? (i := 17) rfl) (List.mem_of_getElem? (i := 18) rfl) dfX10 (Nat.le_of_ble_eq_true rfl) (Nat.le_of_ble_eq_true rfl) dX11_made_95 (fun q hq => ?_)
      refine Z_dup C dX11_made_98 rfl ?_
      refine Z_iload_n C dX11_made_99 0 rfl ?_
      refine Z_iload_n C dX11_made_100 1 rfl ?_
      refine Z_iload_n C dX11_made_101 2 rfl ?_
      refine Z_ci (rc0 := rmr 3 0 0) (Qk := KB 10 k n v (rnew ω0 q (.inr (10, [.int 0, .int 0, .int 0]))) q) (b := q) (As := [.int k, .int n, .int v]) C ki_X11_made_X10_init_106 rfl (Nat.le_of_ble_eq_true rfl) dX11_made_102 ⟨Nat.le_of_ble_eq_true rfl, Nat.le_of_ble_eq_true rfl⟩ (k_X10_init (List.mem_append_right _ (List.mem_singleton.mpr rfl)) (by decide +kernel) (va_up_self _ _ _)) (fun ω1 h1 => ?_)
      refine Z_aret C (Or.inl ⟨_, rfl⟩) dX11_made_105 ?_
      exact GB_mk hq h1 (kci_6 hk)
    · exact absurd (Array.getElem?_eq_some_iff.mp ho).1 (Nat.not_lt.mpr (by show 6 ≤ _; omega))
noncomputable def NB (V : Vx) (N9 : Nat) (ω0 : RWd) (h : Nat) (ω : RWd) : Prop := ∃ q4 : Nat, BT ω0 ω h [(q4, .inl (vC V 0, (N9, .inl (fun _ => 0))))] ∧ ω.2 h = .inr (5, [.ref q4, .int (0 : Int32)])
theorem pa_X5_init_7 : PA RX5 wsX5_init 7 5 1 "NineMowers$Numbers" .int := by
  show _ ∧ _ ∧ _ ∧ _ ∧ _ ∧ _ ∧ _ ∧ _
  exact ⟨by decide +kernel, fun _ h => List.mem_cons_of_mem _ (List.mem_append_right _ h), List.mem_of_getElem? (i := 4) rfl, rfl, rfl, by decide +kernel, ⟨tyX5, tyX5_ok⟩, nmX5⟩
theorem pf_X5_init_13 : PF RX5 wsX5_init 13 5 0 "NineMowers$Numbers" (.array .int) := by
  show _ ∧ _ ∧ _ ∧ _ ∧ _ ∧ _ ∧ _ ∧ _ ∧ _
  exact ⟨by decide +kernel, fun _ h => List.mem_cons_of_mem _ (List.mem_append_right _ h), List.mem_of_getElem? (i := 6) rfl, rfl, rfl, rfl, by decide +kernel, ⟨tyX5, tyX5_ok⟩, nmX5⟩
set_option maxRecDepth 100000 in
set_option maxHeartbeats 8000000 in
theorem k_X5_init {l : Launch} {V : Vx} {h : Nat} {ω0 : RWd} {n9 : Int32} {N9 : Nat} (hU : UPV V) (hm : h ∈ ω0.1) (c0 : ω0.2 h = .inr (5, [.null, .int 0])) (hn9 : ¬ n9 < 0) (hN9 : n9.toNatClampNeg = N9) (hm9 : N9 ≤ 1000) : Kr l V yX5_init wsX5_init (rmr 1 (0 + 1) (0 + N9)) (0 + 1) (0 + N9) [.ref h, .int n9] ω0 (QRV V (NB V N9 ω0 h)) := by
  refine Kr_of (by decide +kernel) rfl rfl (Nat.le_of_ble_eq_true rfl) (fun M hl hV hN C hI => ?_)
  subst hl
  subst hV
  replace hI := hI rfl
  have b0 := BT_0 hm
  show PR M 0 [(0, .ref h), (1, .int n9)] [] ω0 (0, 0)
  refine Z_aload_n C dX5_init_0 0 rfl ?_
  refine Z_objInit C (List.mem_of_getElem? (i := 1) rfl) (List.mem_of_getElem? (i := 2) rfl) (List.mem_of_getElem? (i := 3) rfl) (Nat.le_of_ble_eq_true rfl) (Nat.le_of_ble_eq_true rfl) dX5_init_1 ?_
  refine Z_aload_n C dX5_init_4 0 rfl ?_
  refine Z_iconst C dX5_init_5 (v := (0 : Int32)) (by decide +kernel) ?_
  refine Y_put C pa_X5_init_7 b0 c0 rfl rfl (Nat.le_of_ble_eq_true rfl) dX5_init_6 (fun ω1 bZ cZ => ?_)
  have b2 := bZ
  clear bZ 
  have c3 : ω1.2 h = .inr (5, [.null, .int (0 : Int32)]) := cZ
  clear cZ
  refine Z_aload_n C dX5_init_9 0 rfl ?_
  refine Z_iload_n C dX5_init_10 1 rfl ?_
  refine Y_newa (t := 0) (a0 := (N9, .inl (fun _ => 0))) C hU b2 (List.mem_of_getElem? (i := 5) rfl) rfl rfl (fun _ _ q => q) (fun _ => rfl) hn9 hN9 (by rw [show componentBytes .int = 4 from rfl]; omega) (Nat.le_refl _) (Nat.le_refl _) dX5_init_11 (fun q4 ω5 bZ eZ => ?_)
  have b6 := bZ
  clear bZ b2
  have cZ := eZ.trans c3
  have c7 := cZ
  clear cZ eZ
  refine Y_putF C hI pf_X5_init_13 b6 c7 rfl rfl (Nat.le_of_ble_eq_true rfl) dX5_init_13 (fun ω8 bZ cZ => ?_)
  have b9 := bZ
  clear bZ b6
  have c10 : ω8.2 h = .inr (5, [.ref q4, .int (0 : Int32)]) := cZ
  clear cZ
  exact Z_vret C dX5_init_16 ⟨q4, b9, c10⟩
noncomputable def TB (V : Vx) (ω0 : RWd) (h : Nat) (ω : RWd) : Prop := ∃ q1 : Nat, BT ω0 ω h [(q1, .inl (vC V 3, (60, .inr (.inl (fun _ => 0)))))] ∧ ω.2 h = .inr (9, [.ref q1, .int (-1 : Int32), .int (0 : Int32)])
theorem pf_X9_init_9 : PF RX9 wsX9_init 9 9 0 "NineMowers$Tape" (.array .long) := by
  show _ ∧ _ ∧ _ ∧ _ ∧ _ ∧ _ ∧ _ ∧ _ ∧ _
  exact ⟨by decide +kernel, fun _ h => List.mem_cons_of_mem _ (List.mem_append_right _ h), List.mem_of_getElem? (i := 5) rfl, rfl, rfl, rfl, by decide +kernel, ⟨tyX9, tyX9_ok⟩, nmX9⟩
theorem pa_X9_init_13 : PA RX9 wsX9_init 13 9 1 "NineMowers$Tape" .int := by
  show _ ∧ _ ∧ _ ∧ _ ∧ _ ∧ _ ∧ _ ∧ _
  exact ⟨by decide +kernel, fun _ h => List.mem_cons_of_mem _ (List.mem_append_right _ h), List.mem_of_getElem? (i := 6) rfl, rfl, rfl, by decide +kernel, ⟨tyX9, tyX9_ok⟩, nmX9⟩
theorem pa_X9_init_17 : PA RX9 wsX9_init 17 9 2 "NineMowers$Tape" .int := by
  show _ ∧ _ ∧ _ ∧ _ ∧ _ ∧ _ ∧ _ ∧ _
  exact ⟨by decide +kernel, fun _ h => List.mem_cons_of_mem _ (List.mem_append_right _ h), List.mem_of_getElem? (i := 7) rfl, rfl, rfl, by decide +kernel, ⟨tyX9, tyX9_ok⟩, nmX9⟩
set_option maxRecDepth 100000 in
set_option maxHeartbeats 8000000 in
theorem k_X9_init {l : Launch} {V : Vx} {h : Nat} {ω0 : RWd} (hU : UPV V) (hm : h ∈ ω0.1) (c0 : ω0.2 h = .inr (9, [.null, .int 0, .int 0])) : Kr l V yX9_init wsX9_init (rmr 1 1 (60)) 1 (60) [.ref h] ω0 (QRV V (TB V ω0 h)) := by
  refine Kr_of (by decide +kernel) rfl rfl (Nat.le_of_ble_eq_true rfl) (fun M hl hV hN C hI => ?_)
  subst hl
  subst hV
  replace hI := hI rfl
  have b0 := BT_0 hm
  show PR M 0 [(0, .ref h)] [] ω0 (0, 0)
  refine Z_aload_n C dX9_init_0 0 rfl ?_
  refine Z_objInit C (List.mem_of_getElem? (i := 1) rfl) (List.mem_of_getElem? (i := 2) rfl) (List.mem_of_getElem? (i := 3) rfl) (Nat.le_of_ble_eq_true rfl) (Nat.le_of_ble_eq_true rfl) dX9_init_1 ?_
  refine Z_aload_n C dX9_init_4 0 rfl ?_
  refine Z_bipush C dX9_init_5 (v := (60 : Int32)) (by decide +kernel) ?_
  refine Y_newa (t := 3) (a0 := (60, .inr (.inl (fun _ => 0)))) C hU b0 (List.mem_of_getElem? (i := 4) rfl) rfl rfl (fun _ _ q => q) (fun _ => rfl) (by decide +kernel) rfl (by decide +kernel) (Nat.le_of_ble_eq_true rfl) (Nat.le_of_ble_eq_true rfl) dX9_init_7 (fun q1 ω2 bZ eZ => ?_)
  have b3 := bZ
  clear bZ 
  have cZ := eZ.trans c0
  have c4 := cZ
  clear cZ eZ
  show PR M 9 [(0, .ref h)] [.ref q1, .ref h] ω2 (1, 60)
  refine Y_putF C hI pf_X9_init_9 b3 c4 rfl rfl (Nat.le_of_ble_eq_true rfl) dX9_init_9 (fun ω5 bZ cZ => ?_)
  have b6 := bZ
  clear bZ b3
  have c7 : ω5.2 h = .inr (9, [.ref q1, .int 0, .int 0]) := cZ
  clear cZ
  refine Z_aload_n C dX9_init_12 0 rfl ?_
  refine Z_iconst C dX9_init_13 (v := (-1 : Int32)) (by decide +kernel) ?_
  refine Y_put C pa_X9_init_13 b6 c7 rfl rfl (Nat.le_of_ble_eq_true rfl) dX9_init_14 (fun ω8 bZ cZ => ?_)
  have b9 := bZ
  clear bZ b6
  have c10 : ω8.2 h = .inr (9, [.ref q1, .int (-1 : Int32), .int 0]) := cZ
  clear cZ
  refine Z_aload_n C dX9_init_17 0 rfl ?_
  refine Z_iconst C dX9_init_18 (v := (0 : Int32)) (by decide +kernel) ?_
  refine Y_put C pa_X9_init_17 b9 c10 rfl rfl (Nat.le_of_ble_eq_true rfl) dX9_init_19 (fun ω11 bZ cZ => ?_)
  have b12 := bZ
  clear bZ b9
  have c13 : ω11.2 h = .inr (9, [.ref q1, .int (-1 : Int32), .int (0 : Int32)]) := cZ
  clear cZ
  exact Z_vret C dX9_init_22 ⟨q1, b12, c13⟩
noncomputable def FB (V : Vx) (ω0 : RWd) (h : Nat) (ω : RWd) : Prop := ∃ q10 q20 q27 q34 : Nat, BT ω0 ω h [(q10, .inl (vC V 0, (100, .inl (fun _ => 0)))), (q20, .inl (vC V 0, (10, .inl (fun _ => 0)))), (q27, .inl (vC V 0, (10, .inl (fun _ => 0)))), (q34, .inl (vC V 0, (10, .inl (fun _ => 0))))] ∧ ω.2 h = .inr (2, [.int (2 : Int32), .int (1 : Int32), .int (60 : Int32), .ref q10, .int (0 : Int32), .ref q20, .ref q27, .ref q34, .int (0 : Int32), .null, .int (0 : Int32), .int (0 : Int32)])
theorem pa_X2_init_9 : PA RX2 wsX2_init 9 2 0 "NineMowers$Field" .int := by
  show _ ∧ _ ∧ _ ∧ _ ∧ _ ∧ _ ∧ _ ∧ _
  exact ⟨by decide +kernel, fun _ h => List.mem_cons_of_mem _ (List.mem_append_right _ h), List.mem_of_getElem? (i := 4) rfl, rfl, rfl, by decide +kernel, ⟨tyX2, tyX2_ok⟩, nmX2⟩
theorem pa_X2_init_15 : PA RX2 wsX2_init 15 2 1 "NineMowers$Field" .int := by
  show _ ∧ _ ∧ _ ∧ _ ∧ _ ∧ _ ∧ _ ∧ _
  exact ⟨by decide +kernel, fun _ h => List.mem_cons_of_mem _ (List.mem_append_right _ h), List.mem_of_getElem? (i := 5) rfl, rfl, rfl, by decide +kernel, ⟨tyX2, tyX2_ok⟩, nmX2⟩
theorem pa_X2_init_18 : PA RX2 wsX2_init 18 2 2 "NineMowers$Field" .int := by
  show _ ∧ _ ∧ _ ∧ _ ∧ _ ∧ _ ∧ _ ∧ _
  exact ⟨by decide +kernel, fun _ h => List.mem_cons_of_mem _ (List.mem_append_right _ h), List.mem_of_getElem? (i := 6) rfl, rfl, rfl, by decide +kernel, ⟨tyX2, tyX2_ok⟩, nmX2⟩
theorem pf_X2_init_21 : PF RX2 wsX2_init 21 2 3 "NineMowers$Field" (.array .int) := by
  show _ ∧ _ ∧ _ ∧ _ ∧ _ ∧ _ ∧ _ ∧ _ ∧ _
  exact ⟨by decide +kernel, fun _ h => List.mem_cons_of_mem _ (List.mem_append_right _ h), List.mem_of_getElem? (i := 8) rfl, rfl, rfl, rfl, by decide +kernel, ⟨tyX2, tyX2_ok⟩, nmX2⟩
theorem pa_X2_init_25 : PA RX2 wsX2_init 25 2 4 "NineMowers$Field" .int := by
  show _ ∧ _ ∧ _ ∧ _ ∧ _ ∧ _ ∧ _ ∧ _
  exact ⟨by decide +kernel, fun _ h => List.mem_cons_of_mem _ (List.mem_append_right _ h), List.mem_of_getElem? (i := 9) rfl, rfl, rfl, by decide +kernel, ⟨tyX2, tyX2_ok⟩, nmX2⟩
theorem pf_X2_init_28 : PF RX2 wsX2_init 28 2 5 "NineMowers$Field" (.array .int) := by
  show _ ∧ _ ∧ _ ∧ _ ∧ _ ∧ _ ∧ _ ∧ _ ∧ _
  exact ⟨by decide +kernel, fun _ h => List.mem_cons_of_mem _ (List.mem_append_right _ h), List.mem_of_getElem? (i := 10) rfl, rfl, rfl, rfl, by decide +kernel, ⟨tyX2, tyX2_ok⟩, nmX2⟩
theorem pf_X2_init_31 : PF RX2 wsX2_init 31 2 6 "NineMowers$Field" (.array .int) := by
  show _ ∧ _ ∧ _ ∧ _ ∧ _ ∧ _ ∧ _ ∧ _ ∧ _
  exact ⟨by decide +kernel, fun _ h => List.mem_cons_of_mem _ (List.mem_append_right _ h), List.mem_of_getElem? (i := 11) rfl, rfl, rfl, rfl, by decide +kernel, ⟨tyX2, tyX2_ok⟩, nmX2⟩
theorem pf_X2_init_34 : PF RX2 wsX2_init 34 2 7 "NineMowers$Field" (.array .int) := by
  show _ ∧ _ ∧ _ ∧ _ ∧ _ ∧ _ ∧ _ ∧ _ ∧ _
  exact ⟨by decide +kernel, fun _ h => List.mem_cons_of_mem _ (List.mem_append_right _ h), List.mem_of_getElem? (i := 12) rfl, rfl, rfl, rfl, by decide +kernel, ⟨tyX2, tyX2_ok⟩, nmX2⟩
theorem pa_X2_init_37 : PA RX2 wsX2_init 37 2 8 "NineMowers$Field" .int := by
  show _ ∧ _ ∧ _ ∧ _ ∧ _ ∧ _ ∧ _ ∧ _
  exact ⟨by decide +kernel, fun _ h => List.mem_cons_of_mem _ (List.mem_append_right _ h), List.mem_of_getElem? (i := 13) rfl, rfl, rfl, by decide +kernel, ⟨tyX2, tyX2_ok⟩, nmX2⟩
theorem pa_X2_init_40 : PA RX2 wsX2_init 40 2 9 "NineMowers$Field" (.array .byte) := by
  show _ ∧ _ ∧ _ ∧ _ ∧ _ ∧ _ ∧ _ ∧ _
  exact ⟨by decide +kernel, fun _ h => List.mem_cons_of_mem _ (List.mem_append_right _ h), List.mem_of_getElem? (i := 14) rfl, rfl, rfl, by decide +kernel, ⟨tyX2, tyX2_ok⟩, nmX2⟩
theorem pa_X2_init_44 : PA RX2 wsX2_init 44 2 10 "NineMowers$Field" .int := by
  show _ ∧ _ ∧ _ ∧ _ ∧ _ ∧ _ ∧ _ ∧ _
  exact ⟨by decide +kernel, fun _ h => List.mem_cons_of_mem _ (List.mem_append_right _ h), List.mem_of_getElem? (i := 15) rfl, rfl, rfl, by decide +kernel, ⟨tyX2, tyX2_ok⟩, nmX2⟩
theorem pa_X2_init_47 : PA RX2 wsX2_init 47 2 11 "NineMowers$Field" .int := by
  show _ ∧ _ ∧ _ ∧ _ ∧ _ ∧ _ ∧ _ ∧ _
  exact ⟨by decide +kernel, fun _ h => List.mem_cons_of_mem _ (List.mem_append_right _ h), List.mem_of_getElem? (i := 16) rfl, rfl, rfl, by decide +kernel, ⟨tyX2, tyX2_ok⟩, nmX2⟩
set_option maxRecDepth 100000 in
set_option maxHeartbeats 8000000 in
theorem k_X2_init {l : Launch} {V : Vx} {h : Nat} {ω0 : RWd} (hU : UPV V) (hm : h ∈ ω0.1) (c0 : ω0.2 h = .inr (2, [.int 0, .int 0, .int 0, .null, .int 0, .null, .null, .null, .int 0, .null, .int 0, .int 0])) : Kr l V yX2_init wsX2_init (rmr 1 4 (130)) 4 (130) [.ref h] ω0 (QRV V (FB V ω0 h)) := by
  refine Kr_of (by decide +kernel) rfl rfl (Nat.le_of_ble_eq_true rfl) (fun M hl hV hN C hI => ?_)
  subst hl
  subst hV
  replace hI := hI rfl
  have b0 := BT_0 hm
  show PR M 0 [(0, .ref h)] [] ω0 (0, 0)
  refine Z_aload_n C dX2_init_0 0 rfl ?_
  refine Z_objInit C (List.mem_of_getElem? (i := 1) rfl) (List.mem_of_getElem? (i := 2) rfl) (List.mem_of_getElem? (i := 3) rfl) (Nat.le_of_ble_eq_true rfl) (Nat.le_of_ble_eq_true rfl) dX2_init_1 ?_
  refine Z_aload_n C dX2_init_4 0 rfl ?_
  refine Z_iconst C dX2_init_5 (v := (2 : Int32)) (by decide +kernel) ?_
  refine Y_put C pa_X2_init_9 b0 c0 rfl rfl (Nat.le_of_ble_eq_true rfl) dX2_init_6 (fun ω1 bZ cZ => ?_)
  have b2 := bZ
  clear bZ 
  have c3 : ω1.2 h = .inr (2, [.int (2 : Int32), .int 0, .int 0, .null, .int 0, .null, .null, .null, .int 0, .null, .int 0, .int 0]) := cZ
  clear cZ
  refine Z_aload_n C dX2_init_9 0 rfl ?_
  refine Z_iconst C dX2_init_10 (v := (1 : Int32)) (by decide +kernel) ?_
  refine Y_put C pa_X2_init_15 b2 c3 rfl rfl (Nat.le_of_ble_eq_true rfl) dX2_init_11 (fun ω4 bZ cZ => ?_)
  have b5 := bZ
  clear bZ b2
  have c6 : ω4.2 h = .inr (2, [.int (2 : Int32), .int (1 : Int32), .int 0, .null, .int 0, .null, .null, .null, .int 0, .null, .int 0, .int 0]) := cZ
  clear cZ
  refine Z_aload_n C dX2_init_14 0 rfl ?_
  refine Z_bipush C dX2_init_15 (v := (60 : Int32)) (by decide +kernel) ?_
  refine Y_put C pa_X2_init_18 b5 c6 rfl rfl (Nat.le_of_ble_eq_true rfl) dX2_init_17 (fun ω7 bZ cZ => ?_)
  have b8 := bZ
  clear bZ b5
  have c9 : ω7.2 h = .inr (2, [.int (2 : Int32), .int (1 : Int32), .int (60 : Int32), .null, .int 0, .null, .null, .null, .int 0, .null, .int 0, .int 0]) := cZ
  clear cZ
  refine Z_aload_n C dX2_init_20 0 rfl ?_
  refine Z_bipush C dX2_init_21 (v := (100 : Int32)) (by decide +kernel) ?_
  refine Y_newa (t := 0) (a0 := (100, .inl (fun _ => 0))) C hU b8 (List.mem_of_getElem? (i := 7) rfl) rfl rfl (fun _ _ q => q) (fun _ => rfl) (by decide +kernel) rfl (by decide +kernel) (Nat.le_of_ble_eq_true rfl) (Nat.le_of_ble_eq_true rfl) dX2_init_23 (fun q10 ω11 bZ eZ => ?_)
  have b12 := bZ
  clear bZ b8
  have cZ := eZ.trans c9
  have c13 := cZ
  clear cZ eZ
  show PR M 25 [(0, .ref h)] [.ref q10, .ref h] ω11 (1, 100)
  refine Y_putF C hI pf_X2_init_21 b12 c13 rfl rfl (Nat.le_of_ble_eq_true rfl) dX2_init_25 (fun ω14 bZ cZ => ?_)
  have b15 := bZ
  clear bZ b12
  have c16 : ω14.2 h = .inr (2, [.int (2 : Int32), .int (1 : Int32), .int (60 : Int32), .ref q10, .int 0, .null, .null, .null, .int 0, .null, .int 0, .int 0]) := cZ
  clear cZ
  refine Z_aload_n C dX2_init_28 0 rfl ?_
  refine Z_iconst C dX2_init_29 (v := (0 : Int32)) (by decide +kernel) ?_
  refine Y_put C pa_X2_init_25 b15 c16 rfl rfl (Nat.le_of_ble_eq_true rfl) dX2_init_30 (fun ω17 bZ cZ => ?_)
  have b18 := bZ
  clear bZ b15
  have c19 : ω17.2 h = .inr (2, [.int (2 : Int32), .int (1 : Int32), .int (60 : Int32), .ref q10, .int (0 : Int32), .null, .null, .null, .int 0, .null, .int 0, .int 0]) := cZ
  clear cZ
  refine Z_aload_n C dX2_init_33 0 rfl ?_
  refine Z_bipush C dX2_init_34 (v := (10 : Int32)) (by decide +kernel) ?_
  refine Y_newa (t := 0) (a0 := (10, .inl (fun _ => 0))) C hU b18 (List.mem_of_getElem? (i := 7) rfl) rfl rfl (fun _ _ q => q) (fun _ => rfl) (by decide +kernel) rfl (by decide +kernel) (Nat.le_of_ble_eq_true rfl) (Nat.le_of_ble_eq_true rfl) dX2_init_36 (fun q20 ω21 bZ eZ => ?_)
  have b22 := bZ
  clear bZ b18
  have cZ := eZ.trans c19
  have c23 := cZ
  clear cZ eZ
  show PR M 38 [(0, .ref h)] [.ref q20, .ref h] ω21 (2, 110)
  refine Y_putF C hI pf_X2_init_28 b22 c23 rfl rfl (Nat.le_of_ble_eq_true rfl) dX2_init_38 (fun ω24 bZ cZ => ?_)
  have b25 := bZ
  clear bZ b22
  have c26 : ω24.2 h = .inr (2, [.int (2 : Int32), .int (1 : Int32), .int (60 : Int32), .ref q10, .int (0 : Int32), .ref q20, .null, .null, .int 0, .null, .int 0, .int 0]) := cZ
  clear cZ
  refine Z_aload_n C dX2_init_41 0 rfl ?_
  refine Z_bipush C dX2_init_42 (v := (10 : Int32)) (by decide +kernel) ?_
  refine Y_newa (t := 0) (a0 := (10, .inl (fun _ => 0))) C hU b25 (List.mem_of_getElem? (i := 7) rfl) rfl rfl (fun _ _ q => q) (fun _ => rfl) (by decide +kernel) rfl (by decide +kernel) (Nat.le_of_ble_eq_true rfl) (Nat.le_of_ble_eq_true rfl) dX2_init_44 (fun q27 ω28 bZ eZ => ?_)
  have b29 := bZ
  clear bZ b25
  have cZ := eZ.trans c26
  have c30 := cZ
  clear cZ eZ
  show PR M 46 [(0, .ref h)] [.ref q27, .ref h] ω28 (3, 120)
  refine Y_putF C hI pf_X2_init_31 b29 c30 rfl rfl (Nat.le_of_ble_eq_true rfl) dX2_init_46 (fun ω31 bZ cZ => ?_)
  have b32 := bZ
  clear bZ b29
  have c33 : ω31.2 h = .inr (2, [.int (2 : Int32), .int (1 : Int32), .int (60 : Int32), .ref q10, .int (0 : Int32), .ref q20, .ref q27, .null, .int 0, .null, .int 0, .int 0]) := cZ
  clear cZ
  refine Z_aload_n C dX2_init_49 0 rfl ?_
  refine Z_bipush C dX2_init_50 (v := (10 : Int32)) (by decide +kernel) ?_
  refine Y_newa (t := 0) (a0 := (10, .inl (fun _ => 0))) C hU b32 (List.mem_of_getElem? (i := 7) rfl) rfl rfl (fun _ _ q => q) (fun _ => rfl) (by decide +kernel) rfl (by decide +kernel) (Nat.le_of_ble_eq_true rfl) (Nat.le_of_ble_eq_true rfl) dX2_init_52 (fun q34 ω35 bZ eZ => ?_)
  have b36 := bZ
  clear bZ b32
  have cZ := eZ.trans c33
  have c37 := cZ
  clear cZ eZ
  show PR M 54 [(0, .ref h)] [.ref q34, .ref h] ω35 (4, 130)
  refine Y_putF C hI pf_X2_init_34 b36 c37 rfl rfl (Nat.le_of_ble_eq_true rfl) dX2_init_54 (fun ω38 bZ cZ => ?_)
  have b39 := bZ
  clear bZ b36
  have c40 : ω38.2 h = .inr (2, [.int (2 : Int32), .int (1 : Int32), .int (60 : Int32), .ref q10, .int (0 : Int32), .ref q20, .ref q27, .ref q34, .int 0, .null, .int 0, .int 0]) := cZ
  clear cZ
  refine Z_aload_n C dX2_init_57 0 rfl ?_
  refine Z_iconst C dX2_init_58 (v := (0 : Int32)) (by decide +kernel) ?_
  refine Y_put C pa_X2_init_37 b39 c40 rfl rfl (Nat.le_of_ble_eq_true rfl) dX2_init_59 (fun ω41 bZ cZ => ?_)
  have b42 := bZ
  clear bZ b39
  have c43 : ω41.2 h = .inr (2, [.int (2 : Int32), .int (1 : Int32), .int (60 : Int32), .ref q10, .int (0 : Int32), .ref q20, .ref q27, .ref q34, .int (0 : Int32), .null, .int 0, .int 0]) := cZ
  clear cZ
  refine Z_aload_n C dX2_init_62 0 rfl ?_
  refine Z_null C dX2_init_63 ?_
  refine Y_put C pa_X2_init_40 b42 c43 rfl rfl (Nat.le_of_ble_eq_true rfl) dX2_init_64 (fun ω44 bZ cZ => ?_)
  have b45 := bZ
  clear bZ b42
  have c46 : ω44.2 h = .inr (2, [.int (2 : Int32), .int (1 : Int32), .int (60 : Int32), .ref q10, .int (0 : Int32), .ref q20, .ref q27, .ref q34, .int (0 : Int32), .null, .int 0, .int 0]) := cZ
  clear cZ
  refine Z_aload_n C dX2_init_67 0 rfl ?_
  refine Z_iconst C dX2_init_68 (v := (0 : Int32)) (by decide +kernel) ?_
  refine Y_put C pa_X2_init_44 b45 c46 rfl rfl (Nat.le_of_ble_eq_true rfl) dX2_init_69 (fun ω47 bZ cZ => ?_)
  have b48 := bZ
  clear bZ b45
  have c49 : ω47.2 h = .inr (2, [.int (2 : Int32), .int (1 : Int32), .int (60 : Int32), .ref q10, .int (0 : Int32), .ref q20, .ref q27, .ref q34, .int (0 : Int32), .null, .int (0 : Int32), .int 0]) := cZ
  clear cZ
  refine Z_aload_n C dX2_init_72 0 rfl ?_
  refine Z_iconst C dX2_init_73 (v := (0 : Int32)) (by decide +kernel) ?_
  refine Y_put C pa_X2_init_47 b48 c49 rfl rfl (Nat.le_of_ble_eq_true rfl) dX2_init_74 (fun ω50 bZ cZ => ?_)
  have b51 := bZ
  clear bZ b48
  have c52 : ω50.2 h = .inr (2, [.int (2 : Int32), .int (1 : Int32), .int (60 : Int32), .ref q10, .int (0 : Int32), .ref q20, .ref q27, .ref q34, .int (0 : Int32), .null, .int (0 : Int32), .int (0 : Int32)]) := cZ
  clear cZ
  exact Z_vret C dX2_init_77 ⟨q10, q20, q27, q34, b51, c52⟩
noncomputable def CB (V : Vx) (ω0 : RWd) (h : Nat) (ω : RWd) : Prop := ∃ q1 q11 q21 q28 q35 q42 q49 q65 q67 q73 q75 q81 q83 q89 q96 : Nat, BT ω0 ω h [(q1, .inl (vC V 4, 6, .inr (.inr (.inr (.inr (fun _ => none)))))), (q11, .inl (vC V 0, (6, .inl (fun _ => 0)))), (q21, .inl (vC V 0, (6, .inl (fun _ => 0)))), (q28, .inl (vC V 0, (6, .inl (fun _ => 0)))), (q35, .inl (vC V 0, (6, .inl (fun _ => 0)))), (q42, .inl (vC V 0, (6, .inl (fun _ => 0)))), (q49, .inl (vC V 0, (24, .inl (fun _ => 0)))), (q65, .inr (5, [.ref q67, .int (0 : Int32)])), (q67, .inl (vC V 0, (18, .inl (fun _ => 0)))), (q73, .inr (5, [.ref q75, .int (0 : Int32)])), (q75, .inl (vC V 0, (10, .inl (fun _ => 0)))), (q81, .inr (5, [.ref q83, .int (0 : Int32)])), (q83, .inl (vC V 0, (8, .inl (fun _ => 0)))), (q89, .inl (vC V 0, (6, .inl (fun _ => 0)))), (q96, .inl (vC V 0, (6, .inl (fun _ => 0))))] ∧ ω.2 h = .inr (1, [.ref q1, .int (0 : Int32), .ref q11, .int (0 : Int32), .ref q21, .ref q28, .ref q35, .ref q42, .ref q49, .int (0 : Int32), .null, .int (-1 : Int32), .ref q65, .ref q73, .ref q81, .ref q89, .ref q96])
theorem pf_X1_init_11 : PF RX1 wsX1_init 11 1 0 "NineMowers$Course" (.array (.object "NineMowers$Mower")) := by
  show _ ∧ _ ∧ _ ∧ _ ∧ _ ∧ _ ∧ _ ∧ _ ∧ _
  exact ⟨by decide +kernel, fun _ h => List.mem_cons_of_mem _ (List.mem_append_left _ (List.mem_append_right _ h)), List.mem_of_getElem? (i := 5) rfl, rfl, rfl, rfl, by decide +kernel, ⟨tyX1, tyX1_ok⟩, nmX1⟩
theorem pa_X1_init_17 : PA RX1 wsX1_init 17 1 1 "NineMowers$Course" .int := by
  show _ ∧ _ ∧ _ ∧ _ ∧ _ ∧ _ ∧ _ ∧ _
  exact ⟨by decide +kernel, fun _ h => List.mem_cons_of_mem _ (List.mem_append_left _ (List.mem_append_right _ h)), List.mem_of_getElem? (i := 6) rfl, rfl, rfl, by decide +kernel, ⟨tyX1, tyX1_ok⟩, nmX1⟩
theorem pf_X1_init_21 : PF RX1 wsX1_init 21 1 2 "NineMowers$Course" (.array .int) := by
  show _ ∧ _ ∧ _ ∧ _ ∧ _ ∧ _ ∧ _ ∧ _ ∧ _
  exact ⟨by decide +kernel, fun _ h => List.mem_cons_of_mem _ (List.mem_append_left _ (List.mem_append_right _ h)), List.mem_of_getElem? (i := 8) rfl, rfl, rfl, rfl, by decide +kernel, ⟨tyX1, tyX1_ok⟩, nmX1⟩
theorem pa_X1_init_25 : PA RX1 wsX1_init 25 1 3 "NineMowers$Course" .int := by
  show _ ∧ _ ∧ _ ∧ _ ∧ _ ∧ _ ∧ _ ∧ _
  exact ⟨by decide +kernel, fun _ h => List.mem_cons_of_mem _ (List.mem_append_left _ (List.mem_append_right _ h)), List.mem_of_getElem? (i := 9) rfl, rfl, rfl, by decide +kernel, ⟨tyX1, tyX1_ok⟩, nmX1⟩
theorem pf_X1_init_28 : PF RX1 wsX1_init 28 1 4 "NineMowers$Course" (.array .int) := by
  show _ ∧ _ ∧ _ ∧ _ ∧ _ ∧ _ ∧ _ ∧ _ ∧ _
  exact ⟨by decide +kernel, fun _ h => List.mem_cons_of_mem _ (List.mem_append_left _ (List.mem_append_right _ h)), List.mem_of_getElem? (i := 10) rfl, rfl, rfl, rfl, by decide +kernel, ⟨tyX1, tyX1_ok⟩, nmX1⟩
theorem pf_X1_init_31 : PF RX1 wsX1_init 31 1 5 "NineMowers$Course" (.array .int) := by
  show _ ∧ _ ∧ _ ∧ _ ∧ _ ∧ _ ∧ _ ∧ _ ∧ _
  exact ⟨by decide +kernel, fun _ h => List.mem_cons_of_mem _ (List.mem_append_left _ (List.mem_append_right _ h)), List.mem_of_getElem? (i := 11) rfl, rfl, rfl, rfl, by decide +kernel, ⟨tyX1, tyX1_ok⟩, nmX1⟩
theorem pf_X1_init_34 : PF RX1 wsX1_init 34 1 6 "NineMowers$Course" (.array .int) := by
  show _ ∧ _ ∧ _ ∧ _ ∧ _ ∧ _ ∧ _ ∧ _ ∧ _
  exact ⟨by decide +kernel, fun _ h => List.mem_cons_of_mem _ (List.mem_append_left _ (List.mem_append_right _ h)), List.mem_of_getElem? (i := 12) rfl, rfl, rfl, rfl, by decide +kernel, ⟨tyX1, tyX1_ok⟩, nmX1⟩
theorem pf_X1_init_37 : PF RX1 wsX1_init 37 1 7 "NineMowers$Course" (.array .int) := by
  show _ ∧ _ ∧ _ ∧ _ ∧ _ ∧ _ ∧ _ ∧ _ ∧ _
  exact ⟨by decide +kernel, fun _ h => List.mem_cons_of_mem _ (List.mem_append_left _ (List.mem_append_right _ h)), List.mem_of_getElem? (i := 13) rfl, rfl, rfl, rfl, by decide +kernel, ⟨tyX1, tyX1_ok⟩, nmX1⟩
theorem pf_X1_init_40 : PF RX1 wsX1_init 40 1 8 "NineMowers$Course" (.array .int) := by
  show _ ∧ _ ∧ _ ∧ _ ∧ _ ∧ _ ∧ _ ∧ _ ∧ _
  exact ⟨by decide +kernel, fun _ h => List.mem_cons_of_mem _ (List.mem_append_left _ (List.mem_append_right _ h)), List.mem_of_getElem? (i := 14) rfl, rfl, rfl, rfl, by decide +kernel, ⟨tyX1, tyX1_ok⟩, nmX1⟩
theorem pa_X1_init_43 : PA RX1 wsX1_init 43 1 9 "NineMowers$Course" .int := by
  show _ ∧ _ ∧ _ ∧ _ ∧ _ ∧ _ ∧ _ ∧ _
  exact ⟨by decide +kernel, fun _ h => List.mem_cons_of_mem _ (List.mem_append_left _ (List.mem_append_right _ h)), List.mem_of_getElem? (i := 15) rfl, rfl, rfl, by decide +kernel, ⟨tyX1, tyX1_ok⟩, nmX1⟩
theorem pa_X1_init_46 : PA RX1 wsX1_init 46 1 10 "NineMowers$Course" (.object "NineMowers$Field") := by
  show _ ∧ _ ∧ _ ∧ _ ∧ _ ∧ _ ∧ _ ∧ _
  exact ⟨by decide +kernel, fun _ h => List.mem_cons_of_mem _ (List.mem_append_left _ (List.mem_append_right _ h)), List.mem_of_getElem? (i := 16) rfl, rfl, rfl, by decide +kernel, ⟨tyX1, tyX1_ok⟩, nmX1⟩
theorem pa_X1_init_50 : PA RX1 wsX1_init 50 1 11 "NineMowers$Course" .int := by
  show _ ∧ _ ∧ _ ∧ _ ∧ _ ∧ _ ∧ _ ∧ _
  exact ⟨by decide +kernel, fun _ h => List.mem_cons_of_mem _ (List.mem_append_left _ (List.mem_append_right _ h)), List.mem_of_getElem? (i := 17) rfl, rfl, rfl, by decide +kernel, ⟨tyX1, tyX1_ok⟩, nmX1⟩
theorem ki_X1_init_X5_init_55 {c s c2 s2 : Nat} : KI RX1 wsX1_init (rmr 2 c s) 55 yX5_init wsX5_init (rmr 1 c2 s2) 1 := ⟨_, _, _, gX1_init_X5_init, rfl, (List.mem_of_getElem? (i := 20) rfl), (List.mem_of_getElem? (i := 26) rfl), (List.mem_of_getElem? (i := 27) rfl), rfl, by decide +kernel, Nat.le_of_ble_eq_true rfl, Nat.le_of_ble_eq_true rfl⟩
theorem pf_X1_init_58 : PF RX1 wsX1_init 58 1 12 "NineMowers$Course" (.object "NineMowers$Numbers") := by
  show _ ∧ _ ∧ _ ∧ _ ∧ _ ∧ _ ∧ _ ∧ _ ∧ _
  exact ⟨by decide +kernel, fun _ h => List.mem_cons_of_mem _ (List.mem_append_left _ (List.mem_append_right _ h)), List.mem_of_getElem? (i := 21) rfl, rfl, rfl, rfl, by decide +kernel, ⟨tyX1, tyX1_ok⟩, nmX1⟩
theorem pf_X1_init_62 : PF RX1 wsX1_init 62 1 13 "NineMowers$Course" (.object "NineMowers$Numbers") := by
  show _ ∧ _ ∧ _ ∧ _ ∧ _ ∧ _ ∧ _ ∧ _ ∧ _
  exact ⟨by decide +kernel, fun _ h => List.mem_cons_of_mem _ (List.mem_append_left _ (List.mem_append_right _ h)), List.mem_of_getElem? (i := 22) rfl, rfl, rfl, rfl, by decide +kernel, ⟨tyX1, tyX1_ok⟩, nmX1⟩
theorem pf_X1_init_65 : PF RX1 wsX1_init 65 1 14 "NineMowers$Course" (.object "NineMowers$Numbers") := by
  show _ ∧ _ ∧ _ ∧ _ ∧ _ ∧ _ ∧ _ ∧ _ ∧ _
  exact ⟨by decide +kernel, fun _ h => List.mem_cons_of_mem _ (List.mem_append_left _ (List.mem_append_right _ h)), List.mem_of_getElem? (i := 23) rfl, rfl, rfl, rfl, by decide +kernel, ⟨tyX1, tyX1_ok⟩, nmX1⟩
theorem pf_X1_init_68 : PF RX1 wsX1_init 68 1 15 "NineMowers$Course" (.array .int) := by
  show _ ∧ _ ∧ _ ∧ _ ∧ _ ∧ _ ∧ _ ∧ _ ∧ _
  exact ⟨by decide +kernel, fun _ h => List.mem_cons_of_mem _ (List.mem_append_left _ (List.mem_append_right _ h)), List.mem_of_getElem? (i := 24) rfl, rfl, rfl, rfl, by decide +kernel, ⟨tyX1, tyX1_ok⟩, nmX1⟩
theorem pf_X1_init_71 : PF RX1 wsX1_init 71 1 16 "NineMowers$Course" (.array .int) := by
  show _ ∧ _ ∧ _ ∧ _ ∧ _ ∧ _ ∧ _ ∧ _ ∧ _
  exact ⟨by decide +kernel, fun _ h => List.mem_cons_of_mem _ (List.mem_append_left _ (List.mem_append_right _ h)), List.mem_of_getElem? (i := 25) rfl, rfl, rfl, rfl, by decide +kernel, ⟨tyX1, tyX1_ok⟩, nmX1⟩
set_option maxRecDepth 100000 in
set_option maxHeartbeats 8000000 in
theorem k_X1_init {l : Launch} {V : Vx} {h : Nat} {ω0 : RWd} (hU : UPV V) (hm : h ∈ ω0.1) (c0 : ω0.2 h = .inr (1, [.null, .int 0, .null, .int 0, .null, .null, .null, .null, .null, .int 0, .null, .int 0, .null, .null, .null, .null, .null])) : Kr l V yX1_init wsX1_init (rmr 2 15 (114)) 15 (114) [.ref h] ω0 (QRV V (CB V ω0 h)) := by
  refine Kr_of (by decide +kernel) rfl rfl (Nat.le_of_ble_eq_true rfl) (fun M hl hV hN C hI => ?_)
  subst hl
  subst hV
  replace hI := hI rfl
  have b0 := BT_0 hm
  show PR M 0 [(0, .ref h)] [] ω0 (0, 0)
  refine Z_aload_n C dX1_init_0 0 rfl ?_
  refine Z_objInit C (List.mem_of_getElem? (i := 1) rfl) (List.mem_of_getElem? (i := 2) rfl) (List.mem_of_getElem? (i := 3) rfl) (Nat.le_of_ble_eq_true rfl) (Nat.le_of_ble_eq_true rfl) dX1_init_1 ?_
  refine Z_aload_n C dX1_init_4 0 rfl ?_
  refine Z_bipush C dX1_init_5 (v := (6 : Int32)) (by decide +kernel) ?_
  refine Y_newq (t := 4) C hU b0 (fun U h => (hU U h).2.1) rfl (List.mem_of_getElem? (i := 4) rfl) (by decide +kernel) rfl (by decide +kernel) (Nat.le_of_ble_eq_true rfl) (Nat.le_of_ble_eq_true rfl) dX1_init_7 (fun q1 ω2 bZ eZ => ?_)
  have b3 := bZ
  clear bZ 
  have c4 := eZ.trans c0
  clear eZ
  show PR M 10 [(0, .ref h)] [.ref q1, .ref h] ω2 (1, 6)
  refine Y_putF C hI pf_X1_init_11 b3 c4 rfl rfl (Nat.le_of_ble_eq_true rfl) dX1_init_10 (fun ω5 bZ cZ => ?_)
  have b6 := bZ
  clear bZ b3
  have c7 : ω5.2 h = .inr (1, [.ref q1, .int 0, .null, .int 0, .null, .null, .null, .null, .null, .int 0, .null, .int 0, .null, .null, .null, .null, .null]) := cZ
  clear cZ
  refine Z_aload_n C dX1_init_13 0 rfl ?_
  refine Z_iconst C dX1_init_14 (v := (0 : Int32)) (by decide +kernel) ?_
  refine Y_put C pa_X1_init_17 b6 c7 rfl rfl (Nat.le_of_ble_eq_true rfl) dX1_init_15 (fun ω8 bZ cZ => ?_)
  have b9 := bZ
  clear bZ b6
  have c10 : ω8.2 h = .inr (1, [.ref q1, .int (0 : Int32), .null, .int 0, .null, .null, .null, .null, .null, .int 0, .null, .int 0, .null, .null, .null, .null, .null]) := cZ
  clear cZ
  refine Z_aload_n C dX1_init_18 0 rfl ?_
  refine Z_bipush C dX1_init_19 (v := (6 : Int32)) (by decide +kernel) ?_
  refine Y_newa (t := 0) (a0 := (6, .inl (fun _ => 0))) C hU b9 (List.mem_of_getElem? (i := 7) rfl) rfl rfl (fun _ _ q => q) (fun _ => rfl) (by decide +kernel) rfl (by decide +kernel) (Nat.le_of_ble_eq_true rfl) (Nat.le_of_ble_eq_true rfl) dX1_init_21 (fun q11 ω12 bZ eZ => ?_)
  have b13 := bZ
  clear bZ b9
  have cZ := eZ.trans c10
  have c14 := cZ
  clear cZ eZ
  show PR M 23 [(0, .ref h)] [.ref q11, .ref h] ω12 (2, 12)
  refine Y_putF C hI pf_X1_init_21 b13 c14 rfl rfl (Nat.le_of_ble_eq_true rfl) dX1_init_23 (fun ω15 bZ cZ => ?_)
  have b16 := bZ
  clear bZ b13
  have c17 : ω15.2 h = .inr (1, [.ref q1, .int (0 : Int32), .ref q11, .int 0, .null, .null, .null, .null, .null, .int 0, .null, .int 0, .null, .null, .null, .null, .null]) := cZ
  clear cZ
  refine Z_aload_n C dX1_init_26 0 rfl ?_
  refine Z_iconst C dX1_init_27 (v := (0 : Int32)) (by decide +kernel) ?_
  refine Y_put C pa_X1_init_25 b16 c17 rfl rfl (Nat.le_of_ble_eq_true rfl) dX1_init_28 (fun ω18 bZ cZ => ?_)
  have b19 := bZ
  clear bZ b16
  have c20 : ω18.2 h = .inr (1, [.ref q1, .int (0 : Int32), .ref q11, .int (0 : Int32), .null, .null, .null, .null, .null, .int 0, .null, .int 0, .null, .null, .null, .null, .null]) := cZ
  clear cZ
  refine Z_aload_n C dX1_init_31 0 rfl ?_
  refine Z_bipush C dX1_init_32 (v := (6 : Int32)) (by decide +kernel) ?_
  refine Y_newa (t := 0) (a0 := (6, .inl (fun _ => 0))) C hU b19 (List.mem_of_getElem? (i := 7) rfl) rfl rfl (fun _ _ q => q) (fun _ => rfl) (by decide +kernel) rfl (by decide +kernel) (Nat.le_of_ble_eq_true rfl) (Nat.le_of_ble_eq_true rfl) dX1_init_34 (fun q21 ω22 bZ eZ => ?_)
  have b23 := bZ
  clear bZ b19
  have cZ := eZ.trans c20
  have c24 := cZ
  clear cZ eZ
  show PR M 36 [(0, .ref h)] [.ref q21, .ref h] ω22 (3, 18)
  refine Y_putF C hI pf_X1_init_28 b23 c24 rfl rfl (Nat.le_of_ble_eq_true rfl) dX1_init_36 (fun ω25 bZ cZ => ?_)
  have b26 := bZ
  clear bZ b23
  have c27 : ω25.2 h = .inr (1, [.ref q1, .int (0 : Int32), .ref q11, .int (0 : Int32), .ref q21, .null, .null, .null, .null, .int 0, .null, .int 0, .null, .null, .null, .null, .null]) := cZ
  clear cZ
  refine Z_aload_n C dX1_init_39 0 rfl ?_
  refine Z_bipush C dX1_init_40 (v := (6 : Int32)) (by decide +kernel) ?_
  refine Y_newa (t := 0) (a0 := (6, .inl (fun _ => 0))) C hU b26 (List.mem_of_getElem? (i := 7) rfl) rfl rfl (fun _ _ q => q) (fun _ => rfl) (by decide +kernel) rfl (by decide +kernel) (Nat.le_of_ble_eq_true rfl) (Nat.le_of_ble_eq_true rfl) dX1_init_42 (fun q28 ω29 bZ eZ => ?_)
  have b30 := bZ
  clear bZ b26
  have cZ := eZ.trans c27
  have c31 := cZ
  clear cZ eZ
  show PR M 44 [(0, .ref h)] [.ref q28, .ref h] ω29 (4, 24)
  refine Y_putF C hI pf_X1_init_31 b30 c31 rfl rfl (Nat.le_of_ble_eq_true rfl) dX1_init_44 (fun ω32 bZ cZ => ?_)
  have b33 := bZ
  clear bZ b30
  have c34 : ω32.2 h = .inr (1, [.ref q1, .int (0 : Int32), .ref q11, .int (0 : Int32), .ref q21, .ref q28, .null, .null, .null, .int 0, .null, .int 0, .null, .null, .null, .null, .null]) := cZ
  clear cZ
  refine Z_aload_n C dX1_init_47 0 rfl ?_
  refine Z_bipush C dX1_init_48 (v := (6 : Int32)) (by decide +kernel) ?_
  refine Y_newa (t := 0) (a0 := (6, .inl (fun _ => 0))) C hU b33 (List.mem_of_getElem? (i := 7) rfl) rfl rfl (fun _ _ q => q) (fun _ => rfl) (by decide +kernel) rfl (by decide +kernel) (Nat.le_of_ble_eq_true rfl) (Nat.le_of_ble_eq_true rfl) dX1_init_50 (fun q35 ω36 bZ eZ => ?_)
  have b37 := bZ
  clear bZ b33
  have cZ := eZ.trans c34
  have c38 := cZ
  clear cZ eZ
  show PR M 52 [(0, .ref h)] [.ref q35, .ref h] ω36 (5, 30)
  refine Y_putF C hI pf_X1_init_34 b37 c38 rfl rfl (Nat.le_of_ble_eq_true rfl) dX1_init_52 (fun ω39 bZ cZ => ?_)
  have b40 := bZ
  clear bZ b37
  have c41 : ω39.2 h = .inr (1, [.ref q1, .int (0 : Int32), .ref q11, .int (0 : Int32), .ref q21, .ref q28, .ref q35, .null, .null, .int 0, .null, .int 0, .null, .null, .null, .null, .null]) := cZ
  clear cZ
  refine Z_aload_n C dX1_init_55 0 rfl ?_
  refine Z_bipush C dX1_init_56 (v := (6 : Int32)) (by decide +kernel) ?_
  refine Y_newa (t := 0) (a0 := (6, .inl (fun _ => 0))) C hU b40 (List.mem_of_getElem? (i := 7) rfl) rfl rfl (fun _ _ q => q) (fun _ => rfl) (by decide +kernel) rfl (by decide +kernel) (Nat.le_of_ble_eq_true rfl) (Nat.le_of_ble_eq_true rfl) dX1_init_58 (fun q42 ω43 bZ eZ => ?_)
  have b44 := bZ
  clear bZ b40
  have cZ := eZ.trans c41
  have c45 := cZ
  clear cZ eZ
  show PR M 60 [(0, .ref h)] [.ref q42, .ref h] ω43 (6, 36)
  refine Y_putF C hI pf_X1_init_37 b44 c45 rfl rfl (Nat.le_of_ble_eq_true rfl) dX1_init_60 (fun ω46 bZ cZ => ?_)
  have b47 := bZ
  clear bZ b44
  have c48 : ω46.2 h = .inr (1, [.ref q1, .int (0 : Int32), .ref q11, .int (0 : Int32), .ref q21, .ref q28, .ref q35, .ref q42, .null, .int 0, .null, .int 0, .null, .null, .null, .null, .null]) := cZ
  clear cZ
  refine Z_aload_n C dX1_init_63 0 rfl ?_
  refine Z_bipush C dX1_init_64 (v := (24 : Int32)) (by decide +kernel) ?_
  refine Y_newa (t := 0) (a0 := (24, .inl (fun _ => 0))) C hU b47 (List.mem_of_getElem? (i := 7) rfl) rfl rfl (fun _ _ q => q) (fun _ => rfl) (by decide +kernel) rfl (by decide +kernel) (Nat.le_of_ble_eq_true rfl) (Nat.le_of_ble_eq_true rfl) dX1_init_66 (fun q49 ω50 bZ eZ => ?_)
  have b51 := bZ
  clear bZ b47
  have cZ := eZ.trans c48
  have c52 := cZ
  clear cZ eZ
  show PR M 68 [(0, .ref h)] [.ref q49, .ref h] ω50 (7, 60)
  refine Y_putF C hI pf_X1_init_40 b51 c52 rfl rfl (Nat.le_of_ble_eq_true rfl) dX1_init_68 (fun ω53 bZ cZ => ?_)
  have b54 := bZ
  clear bZ b51
  have c55 : ω53.2 h = .inr (1, [.ref q1, .int (0 : Int32), .ref q11, .int (0 : Int32), .ref q21, .ref q28, .ref q35, .ref q42, .ref q49, .int 0, .null, .int 0, .null, .null, .null, .null, .null]) := cZ
  clear cZ
  refine Z_aload_n C dX1_init_71 0 rfl ?_
  refine Z_iconst C dX1_init_72 (v := (0 : Int32)) (by decide +kernel) ?_
  refine Y_put C pa_X1_init_43 b54 c55 rfl rfl (Nat.le_of_ble_eq_true rfl) dX1_init_73 (fun ω56 bZ cZ => ?_)
  have b57 := bZ
  clear bZ b54
  have c58 : ω56.2 h = .inr (1, [.ref q1, .int (0 : Int32), .ref q11, .int (0 : Int32), .ref q21, .ref q28, .ref q35, .ref q42, .ref q49, .int (0 : Int32), .null, .int 0, .null, .null, .null, .null, .null]) := cZ
  clear cZ
  refine Z_aload_n C dX1_init_76 0 rfl ?_
  refine Z_null C dX1_init_77 ?_
  refine Y_put C pa_X1_init_46 b57 c58 rfl rfl (Nat.le_of_ble_eq_true rfl) dX1_init_78 (fun ω59 bZ cZ => ?_)
  have b60 := bZ
  clear bZ b57
  have c61 : ω59.2 h = .inr (1, [.ref q1, .int (0 : Int32), .ref q11, .int (0 : Int32), .ref q21, .ref q28, .ref q35, .ref q42, .ref q49, .int (0 : Int32), .null, .int 0, .null, .null, .null, .null, .null]) := cZ
  clear cZ
  refine Z_aload_n C dX1_init_81 0 rfl ?_
  refine Z_iconst C dX1_init_82 (v := (-1 : Int32)) (by decide +kernel) ?_
  refine Y_put C pa_X1_init_50 b60 c61 rfl rfl (Nat.le_of_ble_eq_true rfl) dX1_init_83 (fun ω62 bZ cZ => ?_)
  have b63 := bZ
  clear bZ b60
  have c64 : ω62.2 h = .inr (1, [.ref q1, .int (0 : Int32), .ref q11, .int (0 : Int32), .ref q21, .ref q28, .ref q35, .ref q42, .ref q49, .int (0 : Int32), .null, .int (-1 : Int32), .null, .null, .null, .null, .null]) := cZ
  clear cZ
  refine Z_aload_n C dX1_init_86 0 rfl ?_
  refine Z_new (fs := [.null, .int 0]) C hU (ci := 5) rfl (fun _ h => List.mem_cons_of_mem _ (List.mem_append_right _ h)) tyX5_ok (List.mem_of_getElem? (i := 18) rfl) (List.mem_of_getElem? (i := 19) rfl) (List.mem_of_getElem? (i := 20) rfl) dfX5 (Nat.le_of_ble_eq_true rfl) (Nat.le_of_ble_eq_true rfl) dX1_init_87 (fun q65 hq65 => ?_)
  show PR M 90 [(0, .ref h)] [.ref q65, .ref h] (rnew ω62 q65 (.inr (5, [.null, .int 0]))) (8, 62)
  refine Z_dup C dX1_init_90 rfl ?_
  refine Z_bipush C dX1_init_91 (v := (18 : Int32)) (by decide +kernel) ?_
  refine Z_ci (rc0 := (rmr 1 (0 + 1) (0 + 18))) (Qk := NB (mV M) 18 (rnew ω62 q65 (.inr (5, [.null, .int 0]))) q65) (b := q65) (As := [.int (18 : Int32)]) C ki_X1_init_X5_init_55  rfl (Nat.le_of_ble_eq_true rfl) dX1_init_93 ⟨Nat.le_of_ble_eq_true rfl, Nat.le_of_ble_eq_true rfl⟩ (k_X5_init hU (List.mem_append_right _ (List.mem_singleton.mpr rfl)) (va_up_self _ _ _) (by decide +kernel) rfl (by decide +kernel)) (fun ω66 bZ => ?_)
  obtain ⟨q67, bZ, cZ⟩ := bZ
  obtain ⟨bZ, eZ⟩ := BT_call b63 hq65 bZ cZ
  have b68 := bZ
  clear bZ b63
  have c69 := eZ.trans c64
  clear cZ eZ
  show PR M 96 [(0, .ref h)] [.ref q65, .ref h] ω66 (9, 80)
  refine Y_putF C hI pf_X1_init_58 b68 c69 rfl rfl (Nat.le_of_ble_eq_true rfl) dX1_init_96 (fun ω70 bZ cZ => ?_)
  have b71 := bZ
  clear bZ b68
  have c72 : ω70.2 h = .inr (1, [.ref q1, .int (0 : Int32), .ref q11, .int (0 : Int32), .ref q21, .ref q28, .ref q35, .ref q42, .ref q49, .int (0 : Int32), .null, .int (-1 : Int32), .ref q65, .null, .null, .null, .null]) := cZ
  clear cZ
  refine Z_aload_n C dX1_init_99 0 rfl ?_
  refine Z_new (fs := [.null, .int 0]) C hU (ci := 5) rfl (fun _ h => List.mem_cons_of_mem _ (List.mem_append_right _ h)) tyX5_ok (List.mem_of_getElem? (i := 18) rfl) (List.mem_of_getElem? (i := 19) rfl) (List.mem_of_getElem? (i := 20) rfl) dfX5 (Nat.le_of_ble_eq_true rfl) (Nat.le_of_ble_eq_true rfl) dX1_init_100 (fun q73 hq73 => ?_)
  show PR M 103 [(0, .ref h)] [.ref q73, .ref h] (rnew ω70 q73 (.inr (5, [.null, .int 0]))) (10, 82)
  refine Z_dup C dX1_init_103 rfl ?_
  refine Z_bipush C dX1_init_104 (v := (10 : Int32)) (by decide +kernel) ?_
  refine Z_ci (rc0 := (rmr 1 (0 + 1) (0 + 10))) (Qk := NB (mV M) 10 (rnew ω70 q73 (.inr (5, [.null, .int 0]))) q73) (b := q73) (As := [.int (10 : Int32)]) C ki_X1_init_X5_init_55  rfl (Nat.le_of_ble_eq_true rfl) dX1_init_106 ⟨Nat.le_of_ble_eq_true rfl, Nat.le_of_ble_eq_true rfl⟩ (k_X5_init hU (List.mem_append_right _ (List.mem_singleton.mpr rfl)) (va_up_self _ _ _) (by decide +kernel) rfl (by decide +kernel)) (fun ω74 bZ => ?_)
  obtain ⟨q75, bZ, cZ⟩ := bZ
  obtain ⟨bZ, eZ⟩ := BT_call b71 hq73 bZ cZ
  have b76 := bZ
  clear bZ b71
  have c77 := eZ.trans c72
  clear cZ eZ
  show PR M 109 [(0, .ref h)] [.ref q73, .ref h] ω74 (11, 92)
  refine Y_putF C hI pf_X1_init_62 b76 c77 rfl rfl (Nat.le_of_ble_eq_true rfl) dX1_init_109 (fun ω78 bZ cZ => ?_)
  have b79 := bZ
  clear bZ b76
  have c80 : ω78.2 h = .inr (1, [.ref q1, .int (0 : Int32), .ref q11, .int (0 : Int32), .ref q21, .ref q28, .ref q35, .ref q42, .ref q49, .int (0 : Int32), .null, .int (-1 : Int32), .ref q65, .ref q73, .null, .null, .null]) := cZ
  clear cZ
  refine Z_aload_n C dX1_init_112 0 rfl ?_
  refine Z_new (fs := [.null, .int 0]) C hU (ci := 5) rfl (fun _ h => List.mem_cons_of_mem _ (List.mem_append_right _ h)) tyX5_ok (List.mem_of_getElem? (i := 18) rfl) (List.mem_of_getElem? (i := 19) rfl) (List.mem_of_getElem? (i := 20) rfl) dfX5 (Nat.le_of_ble_eq_true rfl) (Nat.le_of_ble_eq_true rfl) dX1_init_113 (fun q81 hq81 => ?_)
  show PR M 116 [(0, .ref h)] [.ref q81, .ref h] (rnew ω78 q81 (.inr (5, [.null, .int 0]))) (12, 94)
  refine Z_dup C dX1_init_116 rfl ?_
  refine Z_bipush C dX1_init_117 (v := (8 : Int32)) (by decide +kernel) ?_
  refine Z_ci (rc0 := (rmr 1 (0 + 1) (0 + 8))) (Qk := NB (mV M) 8 (rnew ω78 q81 (.inr (5, [.null, .int 0]))) q81) (b := q81) (As := [.int (8 : Int32)]) C ki_X1_init_X5_init_55  rfl (Nat.le_of_ble_eq_true rfl) dX1_init_119 ⟨Nat.le_of_ble_eq_true rfl, Nat.le_of_ble_eq_true rfl⟩ (k_X5_init hU (List.mem_append_right _ (List.mem_singleton.mpr rfl)) (va_up_self _ _ _) (by decide +kernel) rfl (by decide +kernel)) (fun ω82 bZ => ?_)
  obtain ⟨q83, bZ, cZ⟩ := bZ
  obtain ⟨bZ, eZ⟩ := BT_call b79 hq81 bZ cZ
  have b84 := bZ
  clear bZ b79
  have c85 := eZ.trans c80
  clear cZ eZ
  show PR M 122 [(0, .ref h)] [.ref q81, .ref h] ω82 (13, 102)
  refine Y_putF C hI pf_X1_init_65 b84 c85 rfl rfl (Nat.le_of_ble_eq_true rfl) dX1_init_122 (fun ω86 bZ cZ => ?_)
  have b87 := bZ
  clear bZ b84
  have c88 : ω86.2 h = .inr (1, [.ref q1, .int (0 : Int32), .ref q11, .int (0 : Int32), .ref q21, .ref q28, .ref q35, .ref q42, .ref q49, .int (0 : Int32), .null, .int (-1 : Int32), .ref q65, .ref q73, .ref q81, .null, .null]) := cZ
  clear cZ
  refine Z_aload_n C dX1_init_125 0 rfl ?_
  refine Z_bipush C dX1_init_126 (v := (6 : Int32)) (by decide +kernel) ?_
  refine Y_newa (t := 0) (a0 := (6, .inl (fun _ => 0))) C hU b87 (List.mem_of_getElem? (i := 7) rfl) rfl rfl (fun _ _ q => q) (fun _ => rfl) (by decide +kernel) rfl (by decide +kernel) (Nat.le_of_ble_eq_true rfl) (Nat.le_of_ble_eq_true rfl) dX1_init_128 (fun q89 ω90 bZ eZ => ?_)
  have b91 := bZ
  clear bZ b87
  have cZ := eZ.trans c88
  have c92 := cZ
  clear cZ eZ
  show PR M 130 [(0, .ref h)] [.ref q89, .ref h] ω90 (14, 108)
  refine Y_putF C hI pf_X1_init_68 b91 c92 rfl rfl (Nat.le_of_ble_eq_true rfl) dX1_init_130 (fun ω93 bZ cZ => ?_)
  have b94 := bZ
  clear bZ b91
  have c95 : ω93.2 h = .inr (1, [.ref q1, .int (0 : Int32), .ref q11, .int (0 : Int32), .ref q21, .ref q28, .ref q35, .ref q42, .ref q49, .int (0 : Int32), .null, .int (-1 : Int32), .ref q65, .ref q73, .ref q81, .ref q89, .null]) := cZ
  clear cZ
  refine Z_aload_n C dX1_init_133 0 rfl ?_
  refine Z_bipush C dX1_init_134 (v := (6 : Int32)) (by decide +kernel) ?_
  refine Y_newa (t := 0) (a0 := (6, .inl (fun _ => 0))) C hU b94 (List.mem_of_getElem? (i := 7) rfl) rfl rfl (fun _ _ q => q) (fun _ => rfl) (by decide +kernel) rfl (by decide +kernel) (Nat.le_of_ble_eq_true rfl) (Nat.le_of_ble_eq_true rfl) dX1_init_136 (fun q96 ω97 bZ eZ => ?_)
  have b98 := bZ
  clear bZ b94
  have cZ := eZ.trans c95
  have c99 := cZ
  clear cZ eZ
  show PR M 138 [(0, .ref h)] [.ref q96, .ref h] ω97 (15, 114)
  refine Y_putF C hI pf_X1_init_71 b98 c99 rfl rfl (Nat.le_of_ble_eq_true rfl) dX1_init_138 (fun ω100 bZ cZ => ?_)
  have b101 := bZ
  clear bZ b98
  have c102 : ω100.2 h = .inr (1, [.ref q1, .int (0 : Int32), .ref q11, .int (0 : Int32), .ref q21, .ref q28, .ref q35, .ref q42, .ref q49, .int (0 : Int32), .null, .int (-1 : Int32), .ref q65, .ref q73, .ref q81, .ref q89, .ref q96]) := cZ
  clear cZ
  exact Z_vret C dX1_init_141 ⟨q1, q11, q21, q28, q35, q42, q49, q65, q67, q73, q75, q81, q83, q89, q96, b101, c102⟩
