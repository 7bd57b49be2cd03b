/-! the class's bounds: what each place of each cell may hold -/
noncomputable def fo (id : Nat) : Option Nat := if id < 69 then none else if id < 74 then some (id - 69) else if id < 1000 then none else if id < 2000 then some ((id - 1000) % 5) else none
noncomputable def limC (o k : Nat) : Option (Int × Int) :=
  if o = 0 then (if k = 1 then some (0, 6) else if k = 3 then some (0, 6) else if k = 9 then some (0, 20000) else none)
  else if o = 2 then some (0, 5)
  else if o = 8 then (if k = 1 then some (0, 18) else none)
  else if o = 10 then (if k = 1 then some (0, 10) else none)
  else if o = 12 then (if k = 1 then some (0, 8) else none)
  else if o = 9 then (if k % 3 = 0 then some (0, 5) else none)
  else if o = 13 then some (0, 5)
  else none
noncomputable def limF (o k : Nat) : Option (Int × Int) :=
  if o = 0 then (if k = 4 then some (0, 100) else if k = 8 then some (0, 10) else if k = 10 then some (0, 100) else if k = 11 then some (0, 100) else none)
  else if o = 1 then some (-3, 1799)
  else if o = 4 then some (0, 100)
  else none
noncomputable def limL (id k : Nat) : Option (Int × Int) :=
  if id = 0 then (if k = 3 then some (0, 1) else if k = 5 then some (0, 6) else if k = 7 then some (0, 100) else none)
  else if id < 49 then limC ((id - 1) % 16) k
  else if id < 52 then none
  else if id < 64 then (if id % 2 = 0 then (if k = 1 then some (-1, 4) else if k = 2 then some (0, 60) else none) else none)
  else if id = 64 then (if k = 1 then some (0, 1000) else none)
  else if id = 66 then some (0, 5)
  else none
noncomputable def lim (id k : Nat) : Option (Int × Int) :=
  if id < 69 then limL id k else match fo id with
  | some o => limF o k
  | none => if 2000 ≤ id then (if k = 0 then some (0, 6) else if k = 1 then some (0, 5) else if k = 2 then some (0, 9) else none) else none
/-- a mower that lives -/
noncomputable def isMw (V : Vx) (μ : Nat) : Prop := ∃ ci : Nat, isMc ci ∧ kd μ = (10 + ci, 0) ∧ μ ∈ ids V
noncomputable def XI (V : Vx) (σ : Sg) : Prop := (∀ id k lo hi, lim id k = some (lo, hi) → lo ≤ (gi σ id k).toInt ∧ (gi σ id k).toInt ≤ hi) ∧ (∀ c, isC c → (∃ f, gr σ c 10 = some f ∧ kd f = (12, 0) ∧ f ∈ ids V) ∧ ∀ k μ, gr σ (c + 1) k = some μ → isMw V μ) ∧ (∀ k f, gr σ 49 k = some f → kd f = (12, 0) ∧ f ∈ ids V) ∧ (∀ f, kd f = (12, 0) → gr σ f 9 = none ∨ gr σ f 9 = some 50)
theorem kdF_ge {f : Nat} (h : kd f = (12, 0)) : f = 69 ∨ (1000 ≤ f ∧ f < 2000 ∧ (f - 1000) % 5 = 0) := by
  rcases kdF h with h | ⟨k, hk, h⟩
  · exact Or.inl h
  · exact Or.inr ⟨by omega, by omega, by omega⟩
theorem mc_ge {ci : Nat} (h : isMc ci) : ci ≤ 10 ∧ ci ≠ 2 ∧ ci ≠ 1 ∧ ci ≠ 5 ∧ ci ≠ 9 := by rcases h with rfl | rfl | rfl | rfl | rfl | rfl | rfl <;> decide
theorem kdM_lo : ∀ f, f < 175 → ∀ ci, ci ∈ mcs → kd f ≠ (10 + ci, 0) := by decide +kernel
theorem kdM_ge {μ ci : Nat} (hm : isMc ci) (h : kd μ = (10 + ci, 0)) : 2000 ≤ μ := by
  by_cases h1 : μ < 175
  · exact absurd h (kdM_lo μ h1 ci (mcs_of hm))
  · by_cases h2 : μ < 1000
    · simp [kd, h1, h2] at h
      have := mc_ge hm; omega
    · by_cases h3 : μ < 2000
      · simp only [kd, h1, h2, h3, if_true, if_false, fkd] at h
        have := mc_ge hm
        split at h
        · exact absurd (congrArg Prod.fst h) (by show ¬ (12 : Nat) = 10 + ci; omega)
        · split at h
          · exact absurd (congrArg Prod.fst h) (by show ¬ (0 : Nat) = 10 + ci; omega)
          · exact absurd (congrArg Prod.fst h) (by show ¬ (0 : Nat) = 10 + ci; omega)
      · omega
theorem lim_C0_1 {c : Nat} (hc : isC c) : lim c 1 = some (0, 6) := by rcases hc with rfl | rfl | rfl <;> rfl
theorem lim_C0_3 {c : Nat} (hc : isC c) : lim c 3 = some (0, 6) := by rcases hc with rfl | rfl | rfl <;> rfl
theorem lim_C0_9 {c : Nat} (hc : isC c) : lim c 9 = some (0, 20000) := by rcases hc with rfl | rfl | rfl <;> rfl
theorem lim_C0_n {c : Nat} (hc : isC c) (k : Nat) (hk : k ≠ 1 ∧ k ≠ 3 ∧ k ≠ 9) : lim c k = none := by rcases hc with rfl | rfl | rfl <;> simp [lim, limL, limC, hk.1, hk.2.1, hk.2.2]
theorem lim_C2 {c : Nat} (hc : isC c) (k : Nat) : lim (c + 2) k = some (0, 5) := by rcases hc with rfl | rfl | rfl <;> rfl
theorem lim_C13 {c : Nat} (hc : isC c) (k : Nat) : lim (c + 13) k = some (0, 5) := by rcases hc with rfl | rfl | rfl <;> rfl
theorem lim_C3 {c : Nat} (hc : isC c) (k : Nat) : lim (c + 3) k = none := by rcases hc with rfl | rfl | rfl <;> rfl
theorem lim_C4 {c : Nat} (hc : isC c) (k : Nat) : lim (c + 4) k = none := by rcases hc with rfl | rfl | rfl <;> rfl
theorem lim_C5 {c : Nat} (hc : isC c) (k : Nat) : lim (c + 5) k = none := by rcases hc with rfl | rfl | rfl <;> rfl
theorem lim_C6 {c : Nat} (hc : isC c) (k : Nat) : lim (c + 6) k = none := by rcases hc with rfl | rfl | rfl <;> rfl
theorem lim_C7 {c : Nat} (hc : isC c) (k : Nat) : lim (c + 7) k = none := by rcases hc with rfl | rfl | rfl <;> rfl
theorem lim_C14 {c : Nat} (hc : isC c) (k : Nat) : lim (c + 14) k = none := by rcases hc with rfl | rfl | rfl <;> rfl
theorem lim_C15 {c : Nat} (hc : isC c) (k : Nat) : lim (c + 15) k = none := by rcases hc with rfl | rfl | rfl <;> rfl
theorem lim_C8_1 {c : Nat} (hc : isC c) : lim (c + 8) 1 = some (0, 18) := by rcases hc with rfl | rfl | rfl <;> rfl
theorem lim_C10_1 {c : Nat} (hc : isC c) : lim (c + 10) 1 = some (0, 10) := by rcases hc with rfl | rfl | rfl <;> rfl
theorem lim_C12_1 {c : Nat} (hc : isC c) : lim (c + 12) 1 = some (0, 8) := by rcases hc with rfl | rfl | rfl <;> rfl
set_option maxRecDepth 100000 in
theorem lim_F {f : Nat} (h : kd f = (12, 0)) {o k : Nat} (ho : o < 5) : lim (f + o) k = limF o k := by
  rcases kdF_ge h with rfl | ⟨h1, h2, h3⟩
  · have a1 : ¬ 69 + o < 69 := by omega
    have a2 : 69 + o < 74 := by omega
    simp [lim, fo, a1, a2]
  · have a1 : ¬ f + o < 69 := by omega
    have a2 : ¬ f + o < 74 := by omega
    have a3 : ¬ f + o < 1000 := by omega
    have a4 : f + o < 2000 := by omega
    have a5 : (f + o - 1000) % 5 = o := by omega
    simp [lim, fo, a1, a2, a3, a4, a5]
theorem lim_F0_4 {f : Nat} (h : kd f = (12, 0)) : lim f 4 = some (0, 100) := by rw [show f = f + 0 from rfl, lim_F h (by decide +kernel)]; rfl
theorem lim_F0_8 {f : Nat} (h : kd f = (12, 0)) : lim f 8 = some (0, 10) := by rw [show f = f + 0 from rfl, lim_F h (by decide +kernel)]; rfl
theorem lim_F0_10 {f : Nat} (h : kd f = (12, 0)) : lim f 10 = some (0, 100) := by rw [show f = f + 0 from rfl, lim_F h (by decide +kernel)]; rfl
theorem lim_F0_11 {f : Nat} (h : kd f = (12, 0)) : lim f 11 = some (0, 100) := by rw [show f = f + 0 from rfl, lim_F h (by decide +kernel)]; rfl
theorem lim_F0_n {f : Nat} (h : kd f = (12, 0)) (k : Nat) (hk : k ≠ 4 ∧ k ≠ 8 ∧ k ≠ 10 ∧ k ≠ 11) : lim f k = none := by rw [show f = f + 0 from rfl, lim_F h (by decide +kernel)]; simp [limF, hk.1, hk.2.1, hk.2.2.1, hk.2.2.2]
theorem lim_F1 {f : Nat} (h : kd f = (12, 0)) (k : Nat) : lim (f + 1) k = some (-3, 1799) := by rw [lim_F h (by decide +kernel)]; rfl
theorem lim_F4 {f : Nat} (h : kd f = (12, 0)) (k : Nat) : lim (f + 4) k = some (0, 100) := by rw [lim_F h (by decide +kernel)]; rfl
theorem lim_F2 {f : Nat} (h : kd f = (12, 0)) (k : Nat) : lim (f + 2) k = none := by rw [lim_F h (by decide +kernel)]; rfl
theorem lim_F3 {f : Nat} (h : kd f = (12, 0)) (k : Nat) : lim (f + 3) k = none := by rw [lim_F h (by decide +kernel)]; rfl
theorem lim_M0_0 {μ ci : Nat} (hm : isMc ci) (h : kd μ = (10 + ci, 0)) : lim μ 0 = some (0, 6) := by
  have h0 := kdM_ge hm h
  have a1 : ¬ μ < 69 := by omega
  have a2 : ¬ μ < 74 := by omega
  have a3 : ¬ μ < 1000 := by omega
  have a4 : ¬ μ < 2000 := by omega
  simp [lim, fo, a1, a2, a3, a4]
theorem lim_M0_1 {μ ci : Nat} (hm : isMc ci) (h : kd μ = (10 + ci, 0)) : lim μ 1 = some (0, 5) := by
  have h0 := kdM_ge hm h
  have a1 : ¬ μ < 69 := by omega
  have a2 : ¬ μ < 74 := by omega
  have a3 : ¬ μ < 1000 := by omega
  have a4 : ¬ μ < 2000 := by omega
  simp [lim, fo, a1, a2, a3, a4]
theorem lim_M0_2 {μ ci : Nat} (hm : isMc ci) (h : kd μ = (10 + ci, 0)) : lim μ 2 = some (0, 9) := by
  have h0 := kdM_ge hm h
  have a1 : ¬ μ < 69 := by omega
  have a2 : ¬ μ < 74 := by omega
  have a3 : ¬ μ < 1000 := by omega
  have a4 : ¬ μ < 2000 := by omega
  simp [lim, fo, a1, a2, a3, a4]
theorem lim_T0_1 {t : Nat} (ht : isT t) : lim t 1 = some (-1, 4) := by rcases ht with rfl | rfl | rfl | rfl | rfl | rfl <;> rfl
theorem lim_T0_2 {t : Nat} (ht : isT t) : lim t 2 = some (0, 60) := by rcases ht with rfl | rfl | rfl | rfl | rfl | rfl <;> rfl
/-- the most of a row of numbers -/
noncomputable def capI (n : Nat) : Int := if n = 64 then 1000 else if n % 16 = 9 then 18 else if n % 16 = 11 then 10 else 8
noncomputable def seenN (n : Nat) : Prop := n = 9 ∨ n = 25 ∨ n = 41
theorem lim_N {n : Nat} (hn : isN n) : lim n 1 = some (0, capI n) := by rcases hn with rfl | rfl | rfl | rfl | rfl | rfl | rfl | rfl | rfl | rfl <;> rfl
theorem lim_Nr {n : Nat} (hn : isN n) (k : Nat) {lo hi : Int} (h : lim (n + 1) k = some (lo, hi)) : lo = 0 ∧ hi = 5 ∧ (seenN n ∧ k % 3 = 0 ∨ n % 16 = 13) := by
  unfold seenN
  rcases hn with rfl | rfl | rfl | rfl | rfl | rfl | rfl | rfl | rfl | rfl <;> simp [lim, limL, limC, fo] at h ⊢ <;> omega
theorem nl_le {n : Nat} (hn : isN n) : (nl n : Int) ≤ capI n ∧ capI n ≤ 1000 ∧ 8 ≤ (nl n : Int) ∧ (nl n : Int) ≤ 20 := by rcases hn with rfl | rfl | rfl | rfl | rfl | rfl | rfl | rfl | rfl | rfl <;> decide
theorem XI_c1 {V : Vx} {σ : Sg} (x : XI V σ) {id k : Nat} {lo hi : Int} (h : lim id k = some (lo, hi)) : lo ≤ (gi σ id k).toInt ∧ (gi σ id k).toInt ≤ hi := x.1 id k lo hi h
theorem XIs {V : Vx} {σ : Sg} {a k : Nat} {v : Int32} (x : XI V σ) (h : ∀ lo hi, lim a k = some (lo, hi) → lo ≤ v.toInt ∧ v.toInt ≤ hi) : XI V (si σ a k v) := by
  refine ⟨fun id j lo hi hl => ?_, x.2⟩
  by_cases e : id = a ∧ j = k
  · obtain ⟨rfl, rfl⟩ := e
    rw [gi_si_eq]
    exact h lo hi hl
  · rw [gi_si_ne (by by_cases hb : id = a
                     · exact Or.inr (fun hj => e ⟨hb, hj⟩)
                     · exact Or.inl hb)]
    exact x.1 id j lo hi hl
theorem XIs_n {V : Vx} {σ : Sg} {a k : Nat} {v : Int32} (x : XI V σ) (h : lim a k = none) : XI V (si σ a k v) := XIs x (fun lo hi q => by rw [h] at q; cases q)
theorem XIs_b {V : Vx} {σ : Sg} {a k : Nat} {v : Int32} {lo hi : Int} (x : XI V σ) (h : lim a k = some (lo, hi)) (h1 : lo ≤ v.toInt) (h2 : v.toInt ≤ hi) : XI V (si σ a k v) := XIs x (fun lo' hi' q => by rw [h] at q; cases q; exact ⟨h1, h2⟩)
theorem XIs_Nr {V : Vx} {σ : Sg} {n k : Nat} {v : Int32} (x : XI V σ) (hn : isN n) (h : seenN n ∧ k % 3 = 0 ∨ n % 16 = 13 → 0 ≤ v.toInt ∧ v.toInt ≤ 5) : XI V (si σ (n + 1) k v) := XIs x (fun lo hi q => by
  obtain ⟨rfl, rfl, z⟩ := lim_Nr hn k q
  exact h z)
theorem XIs_l {V : Vx} {σ : Sg} {a k : Nat} {v : Int64} (x : XI V σ) : XI V (sl σ a k v) := x
theorem XIs_la {V : Vx} {σ : Sg} {a : Nat} {v : Nat → Int64} (x : XI V σ) : XI V (sla σ a v) := x
theorem gr_sr {σ : Sg} {a k b j : Nat} {v : Option Nat} : gr (sr σ a k v) b j = if b = a ∧ j = k then v else gr σ b j := by
  by_cases e : b = a
  · subst e
    by_cases e2 : j = k
    · subst e2; simp [gr, sr, sra, va_up]
    · simp [gr, sr, sra, va_up, e2]
  · simp [gr, sr, sra, va_up, e]
theorem XIs_r {V : Vx} {σ : Sg} {a k : Nat} {v : Option Nat} (x : XI V σ) (h1 : ∀ c, isC c → a = c → k = 10 → ∃ f, v = some f ∧ kd f = (12, 0) ∧ f ∈ ids V) (h2 : ∀ c, isC c → a = c + 1 → ∀ μ, v = some μ → isMw V μ) (h3 : a = 49 → ∀ f, v = some f → kd f = (12, 0) ∧ f ∈ ids V) (h4 : kd a = (12, 0) → k = 9 → v = none ∨ v = some 50) : XI V (sr σ a k v) := by
  refine ⟨x.1, fun c hc => ⟨?_, fun j μ q => ?_⟩, fun j f q => ?_, fun f hf => ?_⟩
  · rw [gr_sr]
    by_cases e : c = a ∧ 10 = k
    · rw [if_pos e]; exact h1 c hc e.1.symm e.2.symm
    · rw [if_neg e]; exact (x.2.1 c hc).1
  · rw [gr_sr] at q
    by_cases e : c + 1 = a ∧ j = k
    · rw [if_pos e] at q; exact h2 c hc e.1.symm μ q
    · rw [if_neg e] at q; exact (x.2.1 c hc).2 j μ q
  · rw [gr_sr] at q
    by_cases e : 49 = a ∧ j = k
    · rw [if_pos e] at q; exact h3 e.1.symm f q
    · rw [if_neg e] at q; exact x.2.2.1 j f q
  · rw [gr_sr]
    by_cases e : f = a ∧ 9 = k
    · rw [if_pos e]; exact h4 (e.1 ▸ hf) e.2.symm
    · rw [if_neg e]; exact x.2.2.2 f hf
theorem XIs_sia {V : Vx} {σ : Sg} {a : Nat} {g : Nat → Int32} (x : XI V σ) (h : ∀ k lo hi, lim a k = some (lo, hi) → lo ≤ (g k).toInt ∧ (g k).toInt ≤ hi) : XI V (sia σ a g) := by
  refine ⟨fun id j lo hi hl => ?_, x.2⟩
  show lo ≤ (va_up σ.1 a g id j).toInt ∧ (va_up σ.1 a g id j).toInt ≤ hi
  by_cases e : id = a
  · subst e; rw [va_up_self]; exact h j lo hi hl
  · rw [va_up_ne _ _ e]; exact x.1 id j lo hi hl
/-! what is left alone -/
noncomputable def FX (S : Nat → Prop) (F : Nat → Nat → Prop) (σ σ' : Sg) : Prop := (∀ id k, ¬ S id → ¬ F id k → gi σ' id k = gi σ id k) ∧ (∀ id k, ¬ S id → gl σ' id k = gl σ id k) ∧ (∀ id k, ¬ S id → ¬ F id k → gr σ' id k = gr σ id k)
theorem FX_rf {S : Nat → Prop} {F : Nat → Nat → Prop} {σ : Sg} : FX S F σ σ := ⟨fun _ _ _ _ => rfl, fun _ _ _ => rfl, fun _ _ _ _ => rfl⟩
theorem FX_i {S : Nat → Prop} {F : Nat → Nat → Prop} {σ σ' : Sg} (f : FX S F σ σ') {id k : Nat} (h1 : ¬ S id) (h2 : ¬ F id k) : gi σ' id k = gi σ id k := f.1 id k h1 h2
theorem FX_r {S : Nat → Prop} {F : Nat → Nat → Prop} {σ σ' : Sg} (f : FX S F σ σ') {id k : Nat} (h1 : ¬ S id) (h2 : ¬ F id k) : gr σ' id k = gr σ id k := f.2.2 id k h1 h2
theorem FX_nil {σ σ' : Sg} (f : FX (fun _ => False) (fun _ _ => False) σ σ') : σ = σ' := by
  obtain ⟨h1, h2, h3⟩ := f
  refine Prod.ext (funext fun a => funext fun k => (h1 a k (fun z => z) (fun z => z)).symm) (Prod.ext (funext fun a => funext fun k => (h2 a k (fun z => z)).symm) (funext fun a => funext fun k => (h3 a k (fun z => z) (fun z => z)).symm))
theorem FX_si {S : Nat → Prop} {F : Nat → Nat → Prop} {σ σ1 : Sg} {a k : Nat} {v : Int32} (f : FX S F σ σ1) (h : S a ∨ F a k) : FX S F σ (si σ1 a k v) := by
  refine ⟨fun id j h1 h2 => ?_, f.2.1, f.2.2⟩
  rw [← f.1 id j h1 h2]
  refine gi_si_ne ?_
  by_cases e : id = a
  · subst e
    refine Or.inr fun e2 => ?_
    subst e2
    exact h.elim h1 h2
  · exact Or.inl e
theorem FX_sia {S : Nat → Prop} {F : Nat → Nat → Prop} {σ σ1 : Sg} {a : Nat} {g : Nat → Int32} (f : FX S F σ σ1) (h : S a) : FX S F σ (sia σ1 a g) := by
  refine ⟨fun id j h1 h2 => ?_, f.2.1, f.2.2⟩
  rw [← f.1 id j h1 h2]
  have e : id ≠ a := fun e => h1 (e ▸ h)
  show va_up σ1.1 a g id j = σ1.1 id j
  rw [va_up_ne _ _ e]
theorem FX_sl {S : Nat → Prop} {F : Nat → Nat → Prop} {σ σ1 : Sg} {a k : Nat} {v : Int64} (f : FX S F σ σ1) (h : S a) : FX S F σ (sl σ1 a k v) := by
  refine ⟨f.1, fun id j h1 => ?_, f.2.2⟩
  rw [← f.2.1 id j h1]
  have e : id ≠ a := fun e => h1 (e ▸ h)
  show va_up σ1.2.1 a _ id j = σ1.2.1 id j
  rw [va_up_ne _ _ e]
theorem FX_sla {S : Nat → Prop} {F : Nat → Nat → Prop} {σ σ1 : Sg} {a : Nat} {g : Nat → Int64} (f : FX S F σ σ1) (h : S a) : FX S F σ (sla σ1 a g) := by
  refine ⟨f.1, fun id j h1 => ?_, f.2.2⟩
  rw [← f.2.1 id j h1]
  have e : id ≠ a := fun e => h1 (e ▸ h)
  show va_up σ1.2.1 a _ id j = σ1.2.1 id j
  rw [va_up_ne _ _ e]
theorem FX_sr {S : Nat → Prop} {F : Nat → Nat → Prop} {σ σ1 : Sg} {a k : Nat} {v : Option Nat} (f : FX S F σ σ1) (h : S a ∨ F a k) : FX S F σ (sr σ1 a k v) := by
  refine ⟨f.1, f.2.1, fun id j h1 h2 => ?_⟩
  rw [← f.2.2 id j h1 h2, gr_sr, if_neg]
  rintro ⟨rfl, rfl⟩
  exact h.elim h1 h2
theorem FX_tr {S S2 : Nat → Prop} {F F2 : Nat → Nat → Prop} {σ σ1 σ2 : Sg} (f : FX S F σ σ1) (g : FX S2 F2 σ1 σ2) (hS : ∀ x, S2 x → S x) (hF : ∀ x k, F2 x k → S x ∨ F x k) : FX S F σ σ2 := by
  refine ⟨fun id k h1 h2 => ?_, fun id k h1 => ?_, fun id k h1 h2 => ?_⟩
  · exact (g.1 id k (fun q => h1 (hS id q)) (fun q => (hF id k q).elim h1 h2)).trans (f.1 id k h1 h2)
  · exact (g.2.1 id k (fun q => h1 (hS id q))).trans (f.2.1 id k h1)
  · exact (g.2.2 id k (fun q => h1 (hS id q)) (fun q => (hF id k q).elim h1 h2)).trans (f.2.2 id k h1 h2)
/-- a row of mowers that may go: who stands in it is one of them, and they are there -/
noncomputable def NN (σ : Sg) (c : Nat) : Prop := (∀ p : Nat, (p : Int) < (gi σ c 3).toInt → (gi σ (c + 2) p).toInt < (gi σ c 1).toInt) ∧ (∀ m : Nat, (m : Int) < (gi σ c 1).toInt → gr σ (c + 1) m ≠ none)
theorem NN_fx {S : Nat → Prop} {F : Nat → Nat → Prop} {σ σ' : Sg} {c : Nat} (n : NN σ c) (f : FX S F σ σ') (h0 : ¬ S c) (h1 : ¬ S (c + 1)) (h2 : ¬ S (c + 2)) (g1 : ¬ F c 1) (g3 : ¬ F c 3) (g4 : ∀ k, ¬ F (c + 1) k) (g5 : ∀ k, ¬ F (c + 2) k) : NN σ' c := by
  unfold NN
  rw [f.1 c 3 h0 g3, f.1 c 1 h0 g1]
  refine ⟨fun p hp => ?_, fun m hm => ?_⟩
  · rw [f.1 (c + 2) p h2 (g5 p)]; exact n.1 p hp
  · rw [f.2.2 (c + 1) m h1 (g4 m)]; exact n.2 m hm
theorem NN_si {σ : Sg} {c a k : Nat} {v : Int32} (n : NN σ c) (h : a ≠ c + 2) (hk : a = c → k ≠ 1 ∧ k ≠ 3) : NN (si σ a k v) c := by
  have e1 : gi (si σ a k v) c 3 = gi σ c 3 := gi_si_ne (by by_cases e : c = a
                                                           · exact Or.inr fun q => (hk e.symm).2 q.symm
                                                           · exact Or.inl e)
  have e2 : gi (si σ a k v) c 1 = gi σ c 1 := gi_si_ne (by by_cases e : c = a
                                                           · exact Or.inr fun q => (hk e.symm).1 q.symm
                                                           · exact Or.inl e)
  unfold NN
  rw [e1, e2]
  refine ⟨fun p hp => ?_, n.2⟩
  rw [gi_si_ne (Or.inl (fun e => h e.symm))]
  exact n.1 p hp
theorem NN_line {σ : Sg} {c k : Nat} {v : Int32} (n : NN σ c) (h : v.toInt < (gi σ c 1).toInt) : NN (si σ (c + 2) k v) c := by
  have e1 : gi (si σ (c + 2) k v) c 3 = gi σ c 3 := gi_si_ne (Or.inl (by omega))
  have e2 : gi (si σ (c + 2) k v) c 1 = gi σ c 1 := gi_si_ne (Or.inl (by omega))
  unfold NN
  rw [e1, e2]
  refine ⟨fun p hp => ?_, n.2⟩
  by_cases e : p = k
  · subst e; rw [gi_si_eq]; exact h
  · rw [gi_si_ne (Or.inr e)]; exact n.1 p hp
theorem NN_one {σ : Sg} {c : Nat} {v : Int32} (n : NN σ c) (hl : (gi σ (c + 2) 0).toInt < (gi σ c 1).toInt) (hv : v.toInt = 1) : NN (si σ c 3 v) c := by
  have e2 : gi (si σ c 3 v) c 1 = gi σ c 1 := gi_si_ne (Or.inr (by decide +kernel))
  unfold NN
  rw [gi_si_eq, e2, hv]
  refine ⟨fun p hp => ?_, n.2⟩
  have hp0 : p = 0 := by omega
  subst hp0
  rw [gi_si_ne (Or.inl (by omega))]
  exact hl
/-- the orders that are tried: numbers of those who are there -/
noncomputable def TRp (σ : Sg) (n m : Int) : Prop := ∀ i : Nat, (i : Int) < n → (gi σ 66 i).toInt < m
noncomputable abbrev TR (σ : Sg) (n : Int) : Prop := TRp σ n n
theorem TR_fx {S : Nat → Prop} {F : Nat → Nat → Prop} {σ σ' : Sg} {n : Int} (h : TR σ n) (f : FX S F σ σ') (h1 : ¬ S 66) (h2 : ∀ k, ¬ F 66 k) : TR σ' n := fun i hi => by rw [f.1 66 i h1 (h2 i)]; exact h i hi
theorem TR_si {σ : Sg} {n : Int} {k : Nat} {v : Int32} (h : TR σ n) (hv : v.toInt < n) : TR (si σ 66 k v) n := fun i hi => by
  by_cases e : i = k
  · subst e; rw [gi_si_eq]; exact hv
  · rw [gi_si_ne (Or.inr e)]; exact h i hi
theorem TR_ne {σ : Sg} {n : Int} {a k : Nat} {v : Int32} (h : TR σ n) (ha : a ≠ 66) : TR (si σ a k v) n := fun i hi => by
  rw [gi_si_ne (Or.inl (fun e => ha e.symm))]; exact h i hi
theorem TR_sia {σ : Sg} {n : Int} {a : Nat} {g : Nat → Int32} (h : TR σ n) (ha : a ≠ 66) : TR (sia σ a g) n := fun i hi => by
  show (va_up σ.1 a g 66 i).toInt < n
  rw [va_up_ne _ _ (fun e => ha e.symm)]; exact h i hi
theorem TRp_step {σ σ' : Sg} {x v : Int32} {n m : Int} (e : σ' = si σ 66 x.toNatClampNeg v) (h : TRp σ x.toInt m) (h0 : 0 ≤ x.toInt) (hv : v.toInt < m) (hn : n = x.toInt + 1) : TRp σ' n m := fun i hi => by
  have ec := cl_eq h0
  rw [e]
  by_cases e2 : i = x.toNatClampNeg
  · rw [e2, gi_si_eq]; exact hv
  · rw [gi_si_ne (Or.inr e2)]; exact h i (by omega)
theorem gr_si {σ : Sg} {a k b j : Nat} {v : Int32} : gr (si σ a k v) b j = gr σ b j := rfl
theorem gi_sr {σ : Sg} {a k b j : Nat} {v : Option Nat} : gi (sr σ a k v) b j = gi σ b j := rfl
theorem gi_sia {σ : Sg} {a b j : Nat} {g : Nat → Int32} : gi (sia σ a g) b j = if b = a then g j else gi σ b j := by
  show va_up σ.1 a g b j = _
  by_cases e : b = a
  · subst e; rw [va_up_self, if_pos rfl]
  · rw [va_up_ne _ _ e, if_neg e]; rfl
theorem cpy_in {α : Type} (f g : Nat → α) {n k : Nat} (h : k < n) : va_cpy f g 0 0 n k = f k := by
  unfold va_cpy
  rw [if_pos ⟨Nat.zero_le _, by omega⟩]
  congr 1
  omega
/-- a course's rows, as far as the k-th, are another's -/
noncomputable def CQ (σ σ' : Sg) (c a i : Nat) : Prop := (∀ k, k < i → gr σ' (c + 1) k = gr σ (a + 1) k) ∧ (∀ j, 2 ≤ j → j ≤ 6 → ∀ k, k < i → gi σ' (c + j) k = gi σ (a + j) k)
noncomputable def CPY (σ σ' : Sg) (c a : Nat) : Prop := (gi σ' c 1 = gi σ a 1 ∧ gi σ' c 3 = gi σ a 3 ∧ gi σ' c 9 = gi σ a 9 ∧ gi σ' c 11 = gi σ a 11 ∧ gr σ' c 10 = gr σ a 10) ∧ CQ σ σ' c a 6 ∧ ∀ k, k < 24 → gi σ' (c + 7) k = gi σ (a + 7) k
theorem XI_mow {V : Vx} {σ : Sg} (x : XI V σ) {c : Nat} (hc : isC c) {k : Nat} (h : gr σ (c + 1) k ≠ none) : ∃ μ ci : Nat, gr σ (c + 1) k = some μ ∧ isMc ci ∧ kd μ = (10 + ci, 0) ∧ μ ∈ ids V := by
  cases hr : gr σ (c + 1) k with
  | none => exact absurd hr h
  | some μ =>
    obtain ⟨ci, h1, h2, h3⟩ := (x.2.1 c hc).2 k μ hr
    exact ⟨μ, ci, rfl, h1, h2, h3⟩
theorem ofNat_nl {n : Nat} (hn : isN n) : (Int32.ofNat (nl n)).toInt = (nl n : Int) := by rcases hn with rfl | rfl | rfl | rfl | rfl | rfl | rfl | rfl | rfl | rfl <;> decide +kernel
theorem nI_slen {i : Nat} (hi : i < 8) : (nI (slen i)).toInt = (slen i : Int) ∧ 3 ≤ (slen i : Int) ∧ (slen i : Int) ≤ 6 := by
  have h : ∀ i, i < 8 → (nI (slen i)).toInt = (slen i : Int) ∧ 3 ≤ (slen i : Int) ∧ (slen i : Int) ≤ 6 := by decide +kernel
  exact h i hi
theorem sby_nar : ∀ i, i < 8 → ∀ k, k < slen i → narrow .char (.int ((((sby i k) &&& 255).toUInt32 % 65536).toInt32)) = .int ((((sby i k) &&& 255).toUInt32 % 65536).toInt32) ∧ (((sby i k) &&& 255).toUInt32 % 65536).toInt32 = sby i k ∧ narrow .char (.int (sby i k)) = .int (sby i k) ∧ 32 ≤ (sby i k).toInt ∧ (sby i k).toInt ≤ 127 := by decide +kernel
/-- the sign that stands next -/
noncomputable def sgn (σ : Sg) (f : Nat) : Int32 := if gi σ f 10 ≤ gi σ f 11 then -1 else gi σ 50 (gi σ f 11).toNatClampNeg
theorem sgn_lt {σ : Sg} {f : Nat} (h : 0 ≤ (sgn σ f).toInt) : (gi σ f 11).toInt < (gi σ f 10).toInt := by
  unfold sgn at h
  by_cases q : gi σ f 10 ≤ gi σ f 11
  · rw [if_pos q] at h; exact absurd h (by decide +kernel)
  · exact Int.not_le.mp fun z => q (Int32.le_iff_toInt_le.mpr z)
theorem sgn_a {σ : Sg} {f : Nat} (h : gi σ f 10 ≤ gi σ f 11) : sgn σ f = -1 := if_pos h
theorem sgn_b {σ : Sg} {f : Nat} (h : ¬ gi σ f 10 ≤ gi σ f 11) : sgn σ f = gi σ 50 (gi σ f 11).toNatClampNeg := if_neg h
/-- what may come to a row of numbers -/
noncomputable def okNum (n : Nat) (size v : Int32) : Prop := (seenN n ∧ size.toInt % 3 = 0 ∨ n % 16 = 13) → 0 ≤ v.toInt ∧ v.toInt ≤ 5
theorem okNum_64 {s v : Int32} : okNum 64 s v := fun h => by rcases h with ⟨h, -⟩ | h <;> simp [seenN] at h
theorem okNum_11 {s v : Int32} : okNum 11 s v := fun h => by rcases h with ⟨h, -⟩ | h <;> simp [seenN] at h
theorem okNum_b {n : Nat} {s v : Int32} (h1 : 0 ≤ v.toInt) (h2 : v.toInt ≤ 5) : okNum n s v := fun _ => ⟨h1, h2⟩
theorem okNum_9 {s v : Int32} (h : ¬ s.toInt % 3 = 0) : okNum 9 s v := fun q => by
  rcases q with ⟨-, q⟩ | q
  · exact absurd q h
  · exact absurd q (by decide +kernel)
theorem okNum_in {n k : Nat} {s v : Int32} (h : okNum n s v) (hs : (k : Int) = s.toInt) : seenN n ∧ k % 3 = 0 ∨ n % 16 = 13 → 0 ≤ v.toInt ∧ v.toInt ≤ 5 := fun q => h (q.elim (fun q => Or.inl ⟨q.1, by omega⟩) Or.inr)
theorem jmax_f (x y : Int32) : (jmax x y).toInt = if x.toInt < y.toInt then y.toInt else x.toInt := by
  unfold jmax
  by_cases h : x < y
  · rw [if_pos h, if_pos (Int32.lt_iff_toInt_lt.mp h)]
  · rw [if_neg h, if_neg (fun q => h (Int32.lt_iff_toInt_lt.mpr q))]
theorem jmin_f (x y : Int32) : (jmin x y).toInt = if y.toInt < x.toInt then y.toInt else x.toInt := by
  unfold jmin
  by_cases h : y < x
  · rw [if_pos h, if_pos (Int32.lt_iff_toInt_lt.mp h)]
  · rw [if_neg h, if_neg (fun q => h (Int32.lt_iff_toInt_lt.mpr q))]
theorem jmax_b (x y : Int32) : x.toInt ≤ (jmax x y).toInt ∧ y.toInt ≤ (jmax x y).toInt ∧ ((jmax x y).toInt = x.toInt ∨ (jmax x y).toInt = y.toInt) := by
  rw [jmax_f]; split <;> omega
theorem jmin_b (x y : Int32) : (jmin x y).toInt ≤ x.toInt ∧ (jmin x y).toInt ≤ y.toInt ∧ ((jmin x y).toInt = x.toInt ∨ (jmin x y).toInt = y.toInt) := by
  rw [jmin_f]; split <;> omega
set_option maxRecDepth 100000 in
set_option maxHeartbeats 4000000 in
theorem k_X5_isFull {l : Launch} {V : Vx} {c0 : Nat} {σ0 : Sg} {Qk : Int32 → Sg → Prop} (hc0 : isN c0) (m0 : XI V σ0) (h9ret : ∀ (r : Int32) (σ' : Sg), XI V σ' → FX (fun id => False) (fun _ _ => False) σ0 σ' → (0 ≤ r.toInt) → (r.toInt ≤ 1) → ((r.toInt = 1 ∧ (nl c0 : Int) ≤ (gi σ0 c0 1).toInt) ∨ (r.toInt = 0 ∧ (gi σ0 c0 1).toInt < (nl c0 : Int))) → Qk r σ') : K_X5_isFull l V c0 σ0 Qk := by
  refine e_X5_isFull (fun M hl hV hN C => ?_)
  subst hl
  subst hV
  have oc0 : c0 = 9 ∨ c0 = 11 ∨ c0 = 13 ∨ c0 = 25 ∨ c0 = 27 ∨ c0 = 29 ∨ c0 = 41 ∨ c0 = 43 ∨ c0 = 45 ∨ c0 = 64 := hc0
  have f0 : FX (fun id => False) (fun _ _ => False) σ0 σ0 := FX_rf
  have t_1 := XI_c1 m0 (lim_N hc0)
  have t_2 := nl_le hc0
  refine s_X5_isFull_0 C hN hc0 ?_
  refine ⟨?_, ?_⟩
  · intro q_3
    have t_4 := ofNat_nl hc0
    have t_5 := nl_le hc0
    have b_6 : (gi σ0 c0 1).toInt < (Int32.ofNat (nl c0)).toInt := Int32.lt_iff_toInt_lt.mp q_3
    have z_7 : (0 : Int32).toInt = 0 := rfl
    exact h9ret (0 : Int32) σ0 m0 f0 (by omega) (by omega) (by first | with_reducible assumption | with_reducible rfl | omega | assumption | rfl)
  · intro q_3
    have t_8 := ofNat_nl hc0
    have t_9 := nl_le hc0
    have b_10 : ¬ (gi σ0 c0 1).toInt < (Int32.ofNat (nl c0)).toInt := fun h9 => q_3 (Int32.lt_iff_toInt_lt.mpr h9)
    have z_11 : (1 : Int32).toInt = 1 := rfl
    exact h9ret (1 : Int32) σ0 m0 f0 (by omega) (by omega) (by first | with_reducible assumption | with_reducible rfl | omega | assumption | rfl)
set_option maxRecDepth 100000 in
set_option maxHeartbeats 4000000 in
theorem k_X5_comes {l : Launch} {V : Vx} {c0 : Nat} {a1 : Int32} {σ0 : Sg} {Qk : Sg → Prop} (hc0 : isN c0) (m0 : XI V σ0) (pre0 : (gi σ0 c0 1).toInt + 1 ≤ capI c0) (pre1 : okNum c0 (gi σ0 c0 1) a1) (h9ret : ∀ (σ' : Sg), XI V σ' → FX (fun id => id = c0 + 1) (fun id k => (id = c0 ∧ k = 1)) σ0 σ' → ((gi σ' c0 1).toInt = (gi σ0 c0 1).toInt + 1) → Qk σ') : K_X5_comes l V c0 a1 σ0 Qk := by
  refine e_X5_comes (fun M hl hV hN C => ?_)
  subst hl
  subst hV
  have oc0 : c0 = 9 ∨ c0 = 11 ∨ c0 = 13 ∨ c0 = 25 ∨ c0 = 27 ∨ c0 = 29 ∨ c0 = 41 ∨ c0 = 43 ∨ c0 = 45 ∨ c0 = 64 := hc0
  have f0 : FX (fun id => id = c0 + 1) (fun id k => (id = c0 ∧ k = 1)) σ0 σ0 := FX_rf
  have t_1 := XI_c1 m0 (lim_N hc0)
  have t_2 := nl_le hc0
  have hs := cl_eq (x := gi σ0 c0 1) (by omega)
  refine s_X5_comes_0 C hN hc0 ?_
  refine ⟨?_, ?_⟩
  · intro q_3
    have t_4 := ofNat_nl hc0
    have t_5 := nl_le hc0
    have b_6 : (Int32.ofNat (nl c0)).toInt ≤ (gi σ0 c0 1).toInt := Int32.le_iff_toInt_le.mp q_3
    intro σ2 eσ2
    have t_7 : ((gi σ0 c0 1) + (1 : Int32)).toInt = (gi σ0 c0 1).toInt + 1 := i_add (x := (gi σ0 c0 1)) (y := (1 : Int32)) (by show (_ : Int) ≤ (gi σ0 c0 1).toInt + 1; omega) (by show (gi σ0 c0 1).toInt + 1 ≤ (_ : Int); omega)
    have mσ2 : XI (mV M) σ2 := by rw [eσ2]; exact XIs_b m0 (lim_N hc0) (by omega) (by omega)
    have fσ2 : FX (fun id => id = c0 + 1) (fun id k => (id = c0 ∧ k = 1)) σ0 σ2 := by rw [eσ2]; exact FX_si f0 (Or.inr (by show (c0 = c0 ∧ 1 = 1); omega))
    have k_8 : (gi σ2 c0 1).toInt = ((gi σ0 c0 1) + (1 : Int32)).toInt := by rw [eσ2]; exact congrArg Int32.toInt gi_si_eq
    exact h9ret σ2 mσ2 fσ2 (by first | with_reducible assumption | with_reducible rfl | omega | assumption | rfl)
  · intro q_3
    have t_9 := ofNat_nl hc0
    have t_10 := nl_le hc0
    have b_11 : ¬ (Int32.ofNat (nl c0)).toInt ≤ (gi σ0 c0 1).toInt := fun h9 => q_3 (Int32.le_iff_toInt_le.mpr h9)
    have hv_12 : vp_in (gi σ0 c0 1) (nl c0) := vp_in_iff.mpr ⟨by omega, by omega⟩
    refine ⟨hv_12, ?_⟩
    intro σ4 eσ4
    have mσ4 : XI (mV M) σ4 := by rw [eσ4]; exact XIs_Nr m0 hc0 (okNum_in pre1 hs)
    have fσ4 : FX (fun id => id = c0 + 1) (fun id k => (id = c0 ∧ k = 1)) σ0 σ4 := by rw [eσ4]; exact FX_si f0 (Or.inl (by show c0 + 1 = c0 + 1; omega))
    have k_13 : (gi σ4 c0 1).toInt = (gi σ0 c0 1).toInt := by rw [eσ4]; exact congrArg Int32.toInt (gi_si_ne (Or.inl (by omega)))
    intro σ5 eσ5
    have t_14 := XI_c1 mσ4 (lim_N hc0)
    have t_15 := nl_le hc0
    have t_16 : ((gi σ4 c0 1) + (1 : Int32)).toInt = (gi σ4 c0 1).toInt + 1 := i_add (x := (gi σ4 c0 1)) (y := (1 : Int32)) (by show (_ : Int) ≤ (gi σ4 c0 1).toInt + 1; omega) (by show (gi σ4 c0 1).toInt + 1 ≤ (_ : Int); omega)
    have mσ5 : XI (mV M) σ5 := by rw [eσ5]; exact XIs_b mσ4 (lim_N hc0) (by omega) (by omega)
    have fσ5 : FX (fun id => id = c0 + 1) (fun id k => (id = c0 ∧ k = 1)) σ0 σ5 := by rw [eσ5]; exact FX_si fσ4 (Or.inr (by show (c0 = c0 ∧ 1 = 1); omega))
    have k_17 : (gi σ5 c0 1).toInt = ((gi σ4 c0 1) + (1 : Int32)).toInt := by rw [eσ5]; exact congrArg Int32.toInt gi_si_eq
    exact h9ret σ5 mσ5 fσ5 (by first | with_reducible assumption | with_reducible rfl | omega | assumption | rfl)
theorem lim_Nsame {n m : Nat} (hn : isN n) (hm : isN m) (h : n % 16 = m % 16) (k : Nat) : lim (n + 1) k = lim (m + 1) k := by
  rcases hn with rfl | rfl | rfl | rfl | rfl | rfl | rfl | rfl | rfl | rfl <;> rcases hm with rfl | rfl | rfl | rfl | rfl | rfl | rfl | rfl | rfl | rfl <;> first | rfl | (exfalso; omega)
set_option maxRecDepth 100000 in
set_option maxHeartbeats 4000000 in
theorem k_X5_becomes {l : Launch} {V : Vx} {c0 : Nat} {a1 : Nat} {σ0 : Sg} {Qk : Sg → Prop} (hc0 : isN c0) (ha1 : isN a1) (m0 : XI V σ0) (pre0 : capI c0 = capI a1) (pre1 : c0 % 16 = a1 % 16) (pre2 : c0 ≠ a1) (h9ret : ∀ (σ' : Sg), XI V σ' → FX (fun id => id = c0 + 1) (fun id k => (id = c0 ∧ k = 1)) σ0 σ' → ((gi σ' c0 1).toInt = (gi σ0 a1 1).toInt) → Qk σ') : K_X5_becomes l V c0 a1 σ0 Qk := by
  refine e_X5_becomes (fun M hl hV hN C => ?_)
  subst hl
  subst hV
  refine s_X5_becomes_0 C hN hc0 ha1 ?_
  intro s1 e1
  have b1 := XI_c1 m0 (lim_N ha1)
  have m1 : XI (mV M) s1 := by rw [e1]; exact XIs_b m0 (lim_N hc0) b1.1 (by omega)
  have f1 : FX (fun id => id = c0 + 1) (fun id k => (id = c0 ∧ k = 1)) σ0 s1 := by rw [e1]; exact FX_si FX_rf (Or.inr ⟨rfl, rfl⟩)
  intro v2 e2
  have n1 := ofNat_nl hc0
  have n2 := ofNat_nl ha1
  have n3 := nl_le hc0
  have n4 := nl_le ha1
  have hb := jmin_b (Int32.ofNat (nl c0)) (Int32.ofNat (nl a1))
  rw [← e2] at hb
  have ec := cl_eq (x := v2) (by omega)
  have z0 : (0 : Int32).toNatClampNeg = 0 := by decide +kernel
  refine ⟨⟨by decide +kernel, by decide +kernel, fun h9 => ?_, by rw [z0]; omega, by rw [z0]; omega⟩, ?_⟩
  · have h8 := Int32.lt_iff_toInt_lt.mp h9
    have h7 : (0 : Int32).toInt = 0 := rfl
    omega
  intro s3 e3
  have m3 : XI (mV M) s3 := by
    rw [e3]
    refine XIs_sia m1 (fun k lo hi q => ?_)
    unfold va_cpy
    split
    · exact m1.1 (a1 + 1) _ lo hi (by rw [show (0 : Int32).toNatClampNeg + (k - (0 : Int32).toNatClampNeg) = k from by rw [z0]; omega, ← lim_Nsame hc0 ha1 pre1]; exact q)
    · exact m1.1 (c0 + 1) k lo hi q
  have f3 : FX (fun id => id = c0 + 1) (fun id k => (id = c0 ∧ k = 1)) σ0 s3 := by rw [e3]; exact FX_sia f1 rfl
  refine h9ret s3 m3 f3 ?_
  rw [e3, gi_sia, if_neg (by omega), e1, gi_si_eq]
set_option maxRecDepth 100000 in
set_option maxHeartbeats 4000000 in
theorem k_X9_isEmpty {l : Launch} {V : Vx} {c0 : Nat} {σ0 : Sg} {Qk : Int32 → Sg → Prop} (hc0 : isT c0) (m0 : XI V σ0) (h9ret : ∀ (r : Int32) (σ' : Sg), XI V σ' → FX (fun id => False) (fun _ _ => False) σ0 σ' → (0 ≤ r.toInt) → (r.toInt ≤ 1) → Qk r σ') : K_X9_isEmpty l V c0 σ0 Qk := by
  refine e_X9_isEmpty (fun M hl hV hN C => ?_)
  subst hl
  subst hV
  have oc0 : c0 = 52 ∨ c0 = 54 ∨ c0 = 56 ∨ c0 = 58 ∨ c0 = 60 ∨ c0 = 62 := hc0
  have f0 : FX (fun id => False) (fun _ _ => False) σ0 σ0 := FX_rf
  have t_1 := XI_c1 m0 (k := 1) (lim_T0_1 hc0)
  refine s_X9_isEmpty_0 C hN hc0 ?_
  refine ⟨?_, ?_⟩
  · intro q_2
    have b_3 : (0 : Int) ≤ (gi σ0 c0 1).toInt := Int32.le_iff_toInt_le.mp q_2
    have z_4 : (0 : Int32).toInt = 0 := rfl
    exact h9ret (0 : Int32) σ0 m0 f0 (by omega) (by omega)
  · intro q_2
    have b_5 : ¬ (0 : Int) ≤ (gi σ0 c0 1).toInt := fun h9 => q_2 (Int32.le_iff_toInt_le.mpr h9)
    have z_6 : (1 : Int32).toInt = 1 := rfl
    exact h9ret (1 : Int32) σ0 m0 f0 (by omega) (by omega)
set_option maxRecDepth 100000 in
set_option maxHeartbeats 4000000 in
theorem k_X9_has {l : Launch} {V : Vx} {c0 : Nat} {a1 : Int32} {σ0 : Sg} {Qk : Int32 → Sg → Prop} (hc0 : isT c0) (m0 : XI V σ0) (h9ret : ∀ (r : Int32) (σ' : Sg), XI V σ' → FX (fun id => False) (fun _ _ => False) σ0 σ' → (0 ≤ r.toInt) → (r.toInt ≤ 1) → ((r.toInt = 1 ∧ 0 ≤ a1.toInt ∧ a1.toInt < (gi σ0 c0 2).toInt) ∨ r.toInt = 0) → Qk r σ') : K_X9_has l V c0 a1 σ0 Qk := by
  refine e_X9_has (fun M hl hV hN C => ?_)
  subst hl
  subst hV
  have oc0 : c0 = 52 ∨ c0 = 54 ∨ c0 = 56 ∨ c0 = 58 ∨ c0 = 60 ∨ c0 = 62 := hc0
  have f0 : FX (fun id => False) (fun _ _ => False) σ0 σ0 := FX_rf
  have t_1 := XI_c1 m0 (k := 2) (lim_T0_2 hc0)
  refine s_X9_has_0 C hN hc0 ?_
  refine ⟨?_, ?_⟩
  · intro q_2
    have w_3 := Int32.toInt_lt a1
    have w_4 := Int32.le_toInt a1
    have b_5 : a1.toInt < 0 := Int32.lt_iff_toInt_lt.mp q_2
    have z_6 : (0 : Int32).toInt = 0 := rfl
    exact h9ret (0 : Int32) σ0 m0 f0 (by omega) (by omega) (by first | with_reducible assumption | with_reducible rfl | omega | assumption | rfl)
  · intro q_2
    have w_7 := Int32.toInt_lt a1
    have w_8 := Int32.le_toInt a1
    have b_9 : ¬ a1.toInt < 0 := fun h9 => q_2 (Int32.lt_iff_toInt_lt.mpr h9)
    refine ⟨?_, ?_⟩
    · intro q_10
      have b_11 : (gi σ0 c0 2).toInt ≤ a1.toInt := Int32.le_iff_toInt_le.mp q_10
      have z_12 : (0 : Int32).toInt = 0 := rfl
      exact h9ret (0 : Int32) σ0 m0 f0 (by omega) (by omega) (by first | with_reducible assumption | with_reducible rfl | omega | assumption | rfl)
    · intro q_10
      have b_13 : ¬ (gi σ0 c0 2).toInt ≤ a1.toInt := fun h9 => q_10 (Int32.le_iff_toInt_le.mpr h9)
      have z_14 : (1 : Int32).toInt = 1 := rfl
      exact h9ret (1 : Int32) σ0 m0 f0 (by omega) (by omega) (by first | with_reducible assumption | with_reducible rfl | omega | assumption | rfl)
set_option maxRecDepth 100000 in
set_option maxHeartbeats 4000000 in
theorem k_J0_isLatin1_aae02 {l : Launch} {V : Vx} {c0 : Nat} {σ0 : Sg} {Qk : Int32 → Sg → Prop} (hc0 : c0 < 8) (m0 : XI V σ0) (h9ret : ∀ (r : Int32) (σ' : Sg), XI V σ' → FX (fun id => False) (fun _ _ => False) σ0 σ' → (r.toInt = 1) → Qk r σ') : K_J0_isLatin1_aae02 l V c0 σ0 Qk := by
  refine e_J0_isLatin1_aae02 (fun M hl hV hN C => ?_)
  subst hl
  subst hV
  have f0 : FX (fun id => False) (fun _ _ => False) σ0 σ0 := FX_rf
  refine s_J0_isLatin1_aae02_0 C hN hc0 ?_
  refine ⟨?_, ?_⟩
  · intro q_1
    have b_2 : (1 : Int) = 0 := congrArg Int32.toInt q_1
    have z_3 : (0 : Int32).toInt = 0 := rfl
    exact h9ret (0 : Int32) σ0 m0 f0 (by first | with_reducible assumption | with_reducible rfl | omega | assumption | rfl)
  · intro q_1
    have b_4 : ¬ (1 : Int) = 0 := fun h9 => q_1 (Int32.toInt_inj.mp h9)
    refine ⟨?_, ?_⟩
    · intro q_5
      have b_6 : ¬ (0 : Int) = 0 := fun h9 => q_5 (Int32.toInt_inj.mp h9)
      have z_7 : (0 : Int32).toInt = 0 := rfl
      exact h9ret (0 : Int32) σ0 m0 f0 (by first | with_reducible assumption | with_reducible rfl | omega | assumption | rfl)
    · intro q_5
      have b_8 : (0 : Int) = 0 := congrArg Int32.toInt q_5
      have z_9 : (1 : Int32).toInt = 1 := rfl
      exact h9ret (1 : Int32) σ0 m0 f0 (by first | with_reducible assumption | with_reducible rfl | omega | assumption | rfl)
theorem shr0_slen : ∀ i, i < 8 → nI (slen i) >>> ((0 : Int32) &&& 31) = nI (slen i) := by decide +kernel
theorem k0_coder {l : Launch} {V : Vx} {c0 : Nat} {σ : Sg} {Qk : Int32 → Sg → Prop} (hc0 : c0 < 8) (h : Qk 0 σ) : K_J0_coder_7d493 l V c0 σ Qk := by
  refine e_J0_coder_7d493 (fun M hl hV hN C => ?_)
  subst hl
  subst hV
  exact s_J0_coder_7d493_0 C hN hc0 ⟨fun q => absurd q (by decide +kernel), fun _ => h⟩
theorem k0_isLatin1 {l : Launch} {V : Vx} {c0 : Nat} {σ : Sg} {Qk : Int32 → Sg → Prop} (hc0 : c0 < 8) (h : Qk 1 σ) : K_J0_isLatin1_aae02 l V c0 σ Qk := by
  refine e_J0_isLatin1_aae02 (fun M hl hV hN C => ?_)
  subst hl
  subst hV
  exact s_J0_isLatin1_aae02_0 C hN hc0 ⟨fun q => absurd q (by decide +kernel), fun _ => ⟨fun q => absurd rfl q, fun _ => h⟩⟩
theorem k_J0_length_8abf5 {l : Launch} {V : Vx} {c0 : Nat} {σ0 : Sg} {Qk : Int32 → Sg → Prop} (hc0 : c0 < 8) (m0 : XI V σ0) (h9ret : ∀ (r : Int32) (σ' : Sg), XI V σ' → FX (fun id => False) (fun _ _ => False) σ0 σ' → (r.toInt = (slen c0 : Int)) → Qk r σ') : K_J0_length_8abf5 l V c0 σ0 Qk := by
  refine e_J0_length_8abf5 (fun M hl hV hN C => ?_)
  subst hl
  subst hV
  refine s_J0_length_8abf5_0 C hN hc0 (k0_coder hc0 ?_)
  rw [shr0_slen c0 hc0]
  exact h9ret _ σ0 m0 FX_rf (nI_slen hc0).1
theorem vp_two {i : Int32} {n : Nat} (h : vp_in i n) : ¬ i < 0 ∧ i.toNatClampNeg < n := ⟨fun q => h (Or.inl q), vp_lt h⟩
theorem k0_charAt1 {l : Launch} {V : Vx} {a1 : Nat} {a2 : Int32} {σ : Sg} {Qk : Int32 → Sg → Prop} (ha1 : a1 < 8) (hv : vp_in a2 (slen a1)) (h : Qk (sby a1 a2.toNatClampNeg) σ) : K_J1_charAt_3b067 l V a1 a2 σ Qk := by
  refine e_J1_charAt_3b067 (fun M hl hV hN C => ?_)
  subst hl
  subst hV
  obtain ⟨h0, h1⟩ := vp_two hv
  obtain ⟨n1, n2, -⟩ := sby_nar a1 ha1 _ h1
  have hn := nI_slen ha1
  have h00 : 0 ≤ a2.toInt := by
    have := Int32.not_lt.mp h0
    exact Int32.le_iff_toInt_le.mp this
  have ec := cl_eq h00
  refine s_J1_charAt_3b067_0 C hN ha1 (k_J0_checkIndex h0 (Int32.lt_iff_toInt_lt.mpr (by omega)) ⟨hv, n1, ?_⟩)
  rw [n2]
  exact h
theorem k_J0_charAt_5068e {l : Launch} {V : Vx} {c0 : Nat} {a1 : Int32} {σ0 : Sg} {Qk : Int32 → Sg → Prop} (hc0 : c0 < 8) (m0 : XI V σ0) (pre0 : vp_in a1 (slen c0)) (h9ret : ∀ (r : Int32) (σ' : Sg), XI V σ' → FX (fun id => False) (fun _ _ => False) σ0 σ' → (32 ≤ r.toInt ∧ r.toInt ≤ 127) → (r = sby c0 a1.toNatClampNeg) → Qk r σ') : K_J0_charAt_5068e l V c0 a1 σ0 Qk := by
  refine e_J0_charAt_5068e (fun M hl hV hN C => ?_)
  subst hl
  subst hV
  obtain ⟨n1, n2, n3, n4⟩ := sby_nar c0 hc0 _ (vp_lt pre0)
  refine s_J0_charAt_5068e_0 C hN hc0 (k0_isLatin1 hc0 ⟨fun q => absurd q (by decide +kernel), fun _ => ?_⟩)
  exact k0_charAt1 hc0 pre0 ⟨n3, h9ret _ σ0 m0 FX_rf n4 rfl⟩
set_option maxRecDepth 100000 in
set_option maxHeartbeats 4000000 in
theorem k_J1_canEncode_9a6ad {l : Launch} {V : Vx} {a1 : Int32} {σ0 : Sg} {Qk : Int32 → Sg → Prop} (m0 : XI V σ0) (h9ret : ∀ (r : Int32) (σ' : Sg), XI V σ' → FX (fun id => False) (fun _ _ => False) σ0 σ' → Qk r σ') : K_J1_canEncode_9a6ad l V a1 σ0 Qk := by
  refine e_J1_canEncode_9a6ad (fun M hl hV hN C => ?_)
  subst hl
  subst hV
  have f0 : FX (fun id => False) (fun _ _ => False) σ0 σ0 := FX_rf
  refine s_J1_canEncode_9a6ad_0 C hN  ?_
  refine ⟨?_, ?_⟩
  · intro q_1
    have w_2 := Int32.toInt_lt a1
    have w_3 := Int32.le_toInt a1
    have b_4 : a1.toInt < 0 := Int32.lt_iff_toInt_lt.mp q_1
    have z_5 : (0 : Int32).toInt = 0 := rfl
    exact h9ret (0 : Int32) σ0 m0 f0
  · intro q_1
    have w_6 := Int32.toInt_lt a1
    have w_7 := Int32.le_toInt a1
    have b_8 : ¬ a1.toInt < 0 := fun h9 => q_1 (Int32.lt_iff_toInt_lt.mpr h9)
    refine ⟨?_, ?_⟩
    · intro q_9
      have b_10 : (255 : Int) < a1.toInt := Int32.lt_iff_toInt_lt.mp q_9
      have z_11 : (0 : Int32).toInt = 0 := rfl
      exact h9ret (0 : Int32) σ0 m0 f0
    · intro q_9
      have b_12 : ¬ (255 : Int) < a1.toInt := fun h9 => q_9 (Int32.lt_iff_toInt_lt.mpr h9)
      have z_13 : (1 : Int32).toInt = 1 := rfl
      exact h9ret (1 : Int32) σ0 m0 f0
set_option maxRecDepth 100000 in
set_option maxHeartbeats 4000000 in
theorem k_J1_indexOfChar_4cfef {l : Launch} {V : Vx} {a1 : Nat} {a2 : Int32} {a3 : Int32} {a4 : Int32} {σ0 : Sg} {Qk : Int32 → Sg → Prop} (ha1 : a1 < 8) (m0 : XI V σ0) (l_a3 : 0 ≤ a3.toInt) (u_a3 : a3.toInt ≤ 6) (l_a4 : 0 ≤ a4.toInt) (u_a4 : a4.toInt ≤ 6) (pre0 : a4.toInt ≤ (slen a1 : Int)) (h9ret : ∀ (r : Int32) (σ' : Sg), XI V σ' → FX (fun id => False) (fun _ _ => False) σ0 σ' → (-1 ≤ r.toInt) → (r.toInt < (slen a1 : Int)) → Qk r σ') : K_J1_indexOfChar_4cfef l V a1 a2 a3 a4 σ0 Qk := by
  refine e_J1_indexOfChar_4cfef (fun M hl hV hN C => ?_)
  subst hl
  subst hV
  have hn := nI_slen ha1
  have T : ∀ n : Nat, (∀ (x3 : Int32) (x4 : Int32) (x5 : Int32) (σ : Sg), XI (mV M) σ → FX (fun id => False) (fun _ _ => False) σ0 σ → (0 ≤ x3.toInt) → (x3.toInt ≤ 6) → (0 ≤ x5.toInt) → (x5.toInt ≤ 6) → (x3.toInt ≤ (slen a1 : Int)) → (7 - x5.toInt).toNat < n → PS M 7 [(0, .ref (300 + a1)), (3, .int x3), (4, .int x4), (5, .int x5)] [] σ (0, 0)) := by
    intro n
    induction n with
    | zero => exact fun _ _ _ _ _ _ _ _ _ _ _ h8 => absurd h8 (Nat.not_lt_zero _)
    | succ n ih =>
      have ih7 := ih
      · intro x3 x4 x5 σ mσ fσ lx3 ux3 lx5 ux5 i0 hmu
        refine s_J1_indexOfChar_4cfef_7 C hN ha1 ?_
        refine ⟨?_, ?_⟩
        · intro q_1
          have b_2 : x3.toInt ≤ x5.toInt := Int32.le_iff_toInt_le.mp q_1
          have z_3 : (-1 : Int32).toInt = -1 := rfl
          exact h9ret (-1 : Int32) σ mσ fσ (by first | with_reducible assumption | with_reducible rfl | omega | assumption | rfl) (by first | with_reducible assumption | with_reducible rfl | omega | assumption | rfl)
        · intro q_1
          have b_4 : ¬ x3.toInt ≤ x5.toInt := fun h9 => q_1 (Int32.le_iff_toInt_le.mpr h9)
          have hv_5 : vp_in x5 (slen a1) := vp_in_iff.mpr ⟨by omega, by omega⟩
          refine ⟨hv_5, ?_⟩
          refine ⟨?_, ?_⟩
          · intro q_6
            intro v4 ev4
            have t_7 : (x5 + (1 : Int32)).toInt = x5.toInt + 1 := i_add (x := x5) (y := (1 : Int32)) (by show (_ : Int) ≤ x5.toInt + 1; omega) (by show x5.toInt + 1 ≤ (_ : Int); omega)
            have t_8 : v4.toInt = (x5 + (1 : Int32)).toInt := congrArg Int32.toInt ev4
            have w_9 := Int32.toInt_lt x4
            have w_10 := Int32.le_toInt x4
            exact ih7 x3 x4 v4 σ mσ fσ (by omega) (by omega) (by omega) (by omega) (by first | with_reducible assumption | with_reducible rfl | omega | assumption | rfl) (by omega)
          · intro q_6
            exact h9ret x5 σ mσ fσ (by first | with_reducible assumption | with_reducible rfl | omega | assumption | rfl) (by first | with_reducible assumption | with_reducible rfl | omega | assumption | rfl)
  have U7 := T 9
  have f0 : FX (fun id => False) (fun _ _ => False) σ0 σ0 := FX_rf
  refine s_J1_indexOfChar_4cfef_0 C hN ha1 ?_
  exact U7 a4 a2.toInt8.toInt32 a3 σ0 m0 f0 (by omega) (by omega) (by omega) (by omega) (by first | with_reducible assumption | with_reducible rfl | omega | assumption | rfl) (by omega)
set_option maxRecDepth 100000 in
set_option maxHeartbeats 4000000 in
theorem k_J1_indexOf_4cfef {l : Launch} {V : Vx} {a1 : Nat} {a2 : Int32} {a3 : Int32} {a4 : Int32} {σ0 : Sg} {Qk : Int32 → Sg → Prop} (ha1 : a1 < 8) (m0 : XI V σ0) (l_a3 : 0 ≤ a3.toInt) (u_a3 : a3.toInt ≤ 0) (l_a4 : 0 ≤ a4.toInt) (u_a4 : a4.toInt ≤ 6) (h9ret : ∀ (r : Int32) (σ' : Sg), XI V σ' → FX (fun id => False) (fun _ _ => False) σ0 σ' → (-1 ≤ r.toInt) → (r.toInt < (slen a1 : Int)) → Qk r σ') : K_J1_indexOf_4cfef l V a1 a2 a3 a4 σ0 Qk := by
  refine e_J1_indexOf_4cfef (fun M hl hV hN C => ?_)
  subst hl
  subst hV
  have hn := nI_slen ha1
  have f0 : FX (fun id => False) (fun _ _ => False) σ0 σ0 := FX_rf
  refine s_J1_indexOf_4cfef_0 C hN ha1 ?_
  refine k_J1_canEncode_9a6ad  m0   (fun r2 σ1 mσ1 cσ1 => ?_)
  obtain rfl := FX_nil cσ1
  refine ⟨?_, ?_⟩
  · intro q_1
    have w_2 := Int32.toInt_lt r2
    have w_3 := Int32.le_toInt r2
    have b_4 : ¬ r2.toInt = 0 := fun h9 => q_1 (Int32.toInt_inj.mp h9)
    have z_5 : (0 : Int32).toInt = 0 := rfl
    intro v4 ev4
    have t_6 := jmax_b a3 (0 : Int32)
    have t_7 : v4.toInt = (jmax a3 (0 : Int32)).toInt := congrArg Int32.toInt ev4
    have t_8 := nI_slen (ha1)
    intro v5 ev5
    have t_9 := jmin_b a4 (nI (slen a1))
    have t_10 : v5.toInt = (jmin a4 (nI (slen a1))).toInt := congrArg Int32.toInt ev5
    refine ⟨?_, ?_⟩
    · intro q_11
      have w_12 := Int32.toInt_lt v5
      have w_13 := Int32.le_toInt v5
      have b_14 : v4.toInt < v5.toInt := Int32.lt_iff_toInt_lt.mp q_11
      refine k_J1_indexOfChar_4cfef ha1 m0  (by omega) (by omega) (by omega) (by omega) (by first | with_reducible assumption | with_reducible rfl | omega | assumption | rfl) (fun r8 σ7 mσ7 cσ7 (pσ7_0 : -1 ≤ r8.toInt) (pσ7_1 : r8.toInt < (slen a1 : Int)) => ?_)
      obtain rfl := FX_nil cσ7
      have w_15 := Int32.toInt_lt r8
      have w_16 := Int32.le_toInt r8
      exact h9ret r8 σ0 m0 f0 (by first | with_reducible assumption | with_reducible rfl | omega | assumption | rfl) (by first | with_reducible assumption | with_reducible rfl | omega | assumption | rfl)
    · intro q_11
      have w_17 := Int32.toInt_lt v5
      have w_18 := Int32.le_toInt v5
      have b_19 : ¬ v4.toInt < v5.toInt := fun h9 => q_11 (Int32.lt_iff_toInt_lt.mpr h9)
      have z_20 : (-1 : Int32).toInt = -1 := rfl
      exact h9ret (-1 : Int32) σ0 m0 f0 (by first | with_reducible assumption | with_reducible rfl | omega | assumption | rfl) (by first | with_reducible assumption | with_reducible rfl | omega | assumption | rfl)
  · intro q_1
    have w_21 := Int32.toInt_lt r2
    have w_22 := Int32.le_toInt r2
    have b_23 : r2.toInt = 0 := congrArg Int32.toInt q_1
    have z_24 : (-1 : Int32).toInt = -1 := rfl
    exact h9ret (-1 : Int32) σ0 m0 f0 (by first | with_reducible assumption | with_reducible rfl | omega | assumption | rfl) (by first | with_reducible assumption | with_reducible rfl | omega | assumption | rfl)
set_option maxRecDepth 100000 in
set_option maxHeartbeats 4000000 in
theorem k_J0_indexOf_7cf53 {l : Launch} {V : Vx} {c0 : Nat} {a1 : Int32} {a2 : Int32} {σ0 : Sg} {Qk : Int32 → Sg → Prop} (hc0 : c0 < 8) (m0 : XI V σ0) (l_a2 : 0 ≤ a2.toInt) (u_a2 : a2.toInt ≤ 0) (h9ret : ∀ (r : Int32) (σ' : Sg), XI V σ' → FX (fun id => False) (fun _ _ => False) σ0 σ' → (-1 ≤ r.toInt) → (r.toInt < (slen c0 : Int)) → Qk r σ') : K_J0_indexOf_7cf53 l V c0 a1 a2 σ0 Qk := by
  refine e_J0_indexOf_7cf53 (fun M hl hV hN C => ?_)
  subst hl
  subst hV
  have hn := nI_slen hc0
  have f0 : FX (fun id => False) (fun _ _ => False) σ0 σ0 := FX_rf
  refine s_J0_indexOf_7cf53_0 C hN hc0 ?_
  refine k_J0_isLatin1_aae02 hc0 m0   (fun r2 σ1 mσ1 cσ1 (pσ1_0 : r2.toInt = 1) => ?_)
  obtain rfl := FX_nil cσ1
  refine ⟨?_, ?_⟩
  · intro q_1
    have w_2 := Int32.toInt_lt r2
    have w_3 := Int32.le_toInt r2
    have b_4 : r2.toInt = 0 := congrArg Int32.toInt q_1
    refine k_J0_length_8abf5 hc0 m0   (fun r5 σ4 mσ4 cσ4 (pσ4_0 : r5.toInt = (slen c0 : Int)) => ?_)
    obtain rfl := FX_nil cσ4
    exfalso; omega
  · intro q_1
    have w_5 := Int32.toInt_lt r2
    have w_6 := Int32.le_toInt r2
    have b_7 : ¬ r2.toInt = 0 := fun h9 => q_1 (Int32.toInt_inj.mp h9)
    refine k_J0_length_8abf5 hc0 m0   (fun r7 σ6 mσ6 cσ6 (pσ6_0 : r7.toInt = (slen c0 : Int)) => ?_)
    obtain rfl := FX_nil cσ6
    refine k_J1_indexOf_4cfef hc0 m0  (by omega) (by omega) (by omega) (by omega) (fun r9 σ8 mσ8 cσ8 (pσ8_0 : -1 ≤ r9.toInt) (pσ8_1 : r9.toInt < (slen c0 : Int)) => ?_)
    obtain rfl := FX_nil cσ8
    have w_8 := Int32.toInt_lt r9
    have w_9 := Int32.le_toInt r9
    exact h9ret r9 σ0 m0 f0 (by first | with_reducible assumption | with_reducible rfl | omega | assumption | rfl) (by first | with_reducible assumption | with_reducible rfl | omega | assumption | rfl)
set_option maxRecDepth 100000 in
set_option maxHeartbeats 4000000 in
theorem k_J0_indexOf_0f7a4 {l : Launch} {V : Vx} {c0 : Nat} {a1 : Int32} {σ0 : Sg} {Qk : Int32 → Sg → Prop} (hc0 : c0 < 8) (m0 : XI V σ0) (h9ret : ∀ (r : Int32) (σ' : Sg), XI V σ' → FX (fun id => False) (fun _ _ => False) σ0 σ' → (-1 ≤ r.toInt) → (r.toInt < (slen c0 : Int)) → Qk r σ') : K_J0_indexOf_0f7a4 l V c0 a1 σ0 Qk := by
  refine e_J0_indexOf_0f7a4 (fun M hl hV hN C => ?_)
  subst hl
  subst hV
  have f0 : FX (fun id => False) (fun _ _ => False) σ0 σ0 := FX_rf
  refine s_J0_indexOf_0f7a4_0 C hN hc0 ?_
  have z_1 : (0 : Int32).toInt = 0 := rfl
  refine k_J0_indexOf_7cf53 hc0 m0  (by omega) (by omega) (fun r2 σ1 mσ1 cσ1 (pσ1_0 : -1 ≤ r2.toInt) (pσ1_1 : r2.toInt < (slen c0 : Int)) => ?_)
  obtain rfl := FX_nil cσ1
  have w_2 := Int32.toInt_lt r2
  have w_3 := Int32.le_toInt r2
  exact h9ret r2 σ0 m0 f0 (by first | with_reducible assumption | with_reducible rfl | omega | assumption | rfl) (by first | with_reducible assumption | with_reducible rfl | omega | assumption | rfl)
set_option maxRecDepth 100000 in
set_option maxHeartbeats 4000000 in
theorem k_X2_sign {l : Launch} {V : Vx} {c0 : Nat} {σ0 : Sg} {Qk : Int32 → Sg → Prop} (hc0 : kd c0 = (12, 0)) (lc0 : c0 ∈ ids (V)) (m0 : XI V σ0) (pre0 : gr σ0 c0 9 = some 50) (h9ret : ∀ (r : Int32) (σ' : Sg), XI V σ' → FX (fun id => False) (fun _ _ => False) σ0 σ' → (r.toInt = (sgn σ0 c0).toInt) → Qk r σ') : K_X2_sign l V c0 σ0 Qk := by
  refine e_X2_sign (fun M hl hV hN C => ?_)
  subst hl
  subst hV
  have gc0 := kdF_ge hc0
  have f0 : FX (fun id => False) (fun _ _ => False) σ0 σ0 := FX_rf
  have t_1 := XI_c1 m0 (k := 10) (lim_F0_10 hc0)
  have t_2 := XI_c1 m0 (k := 11) (lim_F0_11 hc0)
  refine s_X2_sign_0 C hN hc0 lc0 ?_
  refine ⟨?_, ?_⟩
  · intro q_3
    exact absurd (pre0.symm.trans q_3) (by decide +kernel)
  · intro a4 q_3
    refine ⟨?_, ?_⟩
    · intro q_4
      have b_5 : (gi σ0 c0 10).toInt ≤ (gi σ0 c0 11).toInt := Int32.le_iff_toInt_le.mp q_4
      have z_6 : (-1 : Int32).toInt = -1 := rfl
      exact h9ret (-1 : Int32) σ0 m0 f0 (by first | exact congrArg Int32.toInt (sgn_a (by first | with_reducible assumption | assumption)).symm | exact congrArg Int32.toInt (sgn_b (by first | with_reducible assumption | assumption)).symm)
    · intro q_4
      have b_7 : ¬ (gi σ0 c0 10).toInt ≤ (gi σ0 c0 11).toInt := fun h9 => q_4 (Int32.le_iff_toInt_le.mpr h9)
      have e9 : gr σ0 c0 9 = some 50 := ((m0.2.2.2 _ hc0).elim (fun z => by rw [z] at q_3; cases q_3) id)
      refine ⟨50, 100, e9, kd_50, fxl fx_50, ?_⟩
      have hv_8 : vp_in (gi σ0 c0 11) 100 := vp_in_iff.mpr ⟨by omega, by omega⟩
      refine ⟨hv_8, ?_⟩
      have w_9 := Int32.toInt_lt (gi σ0 50 (gi σ0 c0 11).toNatClampNeg)
      have w_10 := Int32.le_toInt (gi σ0 50 (gi σ0 c0 11).toNatClampNeg)
      exact h9ret (gi σ0 50 (gi σ0 c0 11).toNatClampNeg) σ0 m0 f0 (by first | exact congrArg Int32.toInt (sgn_a (by first | with_reducible assumption | assumption)).symm | exact congrArg Int32.toInt (sgn_b (by first | with_reducible assumption | assumption)).symm)
set_option maxRecDepth 100000 in
set_option maxHeartbeats 4000000 in
theorem k_X2_isDigit {l : Launch} {V : Vx} {c0 : Nat} {σ0 : Sg} {Qk : Int32 → Sg → Prop} (hc0 : kd c0 = (12, 0)) (lc0 : c0 ∈ ids (V)) (m0 : XI V σ0) (pre0 : gr σ0 c0 9 = some 50) (h9ret : ∀ (r : Int32) (σ' : Sg), XI V σ' → FX (fun id => False) (fun _ _ => False) σ0 σ' → (0 ≤ r.toInt) → (r.toInt ≤ 1) → ((r.toInt = 1 ∧ 48 ≤ (sgn σ0 c0).toInt ∧ (sgn σ0 c0).toInt ≤ 57) ∨ r.toInt = 0) → Qk r σ') : K_X2_isDigit l V c0 σ0 Qk := by
  refine e_X2_isDigit (fun M hl hV hN C => ?_)
  subst hl
  subst hV
  have gc0 := kdF_ge hc0
  have f0 : FX (fun id => False) (fun _ _ => False) σ0 σ0 := FX_rf
  have t_1 := XI_c1 m0 (k := 10) (lim_F0_10 hc0)
  have t_2 := XI_c1 m0 (k := 11) (lim_F0_11 hc0)
  refine s_X2_isDigit_0 C hN hc0 lc0 ?_
  refine k_X2_sign hc0 lc0 m0  (by first | with_reducible assumption | with_reducible rfl | omega | assumption | rfl) (fun r2 σ1 mσ1 cσ1 (pσ1_0 : r2.toInt = (sgn σ0 c0).toInt) => ?_)
  obtain rfl := FX_nil cσ1
  refine ⟨?_, ?_⟩
  · intro q_3
    have w_4 := Int32.toInt_lt r2
    have w_5 := Int32.le_toInt r2
    have b_6 : r2.toInt < 48 := Int32.lt_iff_toInt_lt.mp q_3
    have z_7 : (0 : Int32).toInt = 0 := rfl
    exact h9ret (0 : Int32) σ0 m0 f0 (by omega) (by omega) (by first | with_reducible assumption | with_reducible rfl | omega | assumption | rfl)
  · intro q_3
    have w_8 := Int32.toInt_lt r2
    have w_9 := Int32.le_toInt r2
    have b_10 : ¬ r2.toInt < 48 := fun h9 => q_3 (Int32.lt_iff_toInt_lt.mpr h9)
    refine k_X2_sign hc0 lc0 m0  (by first | with_reducible assumption | with_reducible rfl | omega | assumption | rfl) (fun r5 σ4 mσ4 cσ4 (pσ4_0 : r5.toInt = (sgn σ0 c0).toInt) => ?_)
    obtain rfl := FX_nil cσ4
    refine ⟨?_, ?_⟩
    · intro q_11
      have w_12 := Int32.toInt_lt r5
      have w_13 := Int32.le_toInt r5
      have b_14 : (57 : Int) < r5.toInt := Int32.lt_iff_toInt_lt.mp q_11
      have z_15 : (0 : Int32).toInt = 0 := rfl
      exact h9ret (0 : Int32) σ0 m0 f0 (by omega) (by omega) (by first | with_reducible assumption | with_reducible rfl | omega | assumption | rfl)
    · intro q_11
      have w_16 := Int32.toInt_lt r5
      have w_17 := Int32.le_toInt r5
      have b_18 : ¬ (57 : Int) < r5.toInt := fun h9 => q_11 (Int32.lt_iff_toInt_lt.mpr h9)
      have z_19 : (1 : Int32).toInt = 1 := rfl
      exact h9ret (1 : Int32) σ0 m0 f0 (by omega) (by omega) (by first | with_reducible assumption | with_reducible rfl | omega | assumption | rfl)
set_option maxRecDepth 100000 in
set_option maxHeartbeats 4000000 in
theorem k_X2_takes {l : Launch} {V : Vx} {c0 : Nat} {a1 : Int32} {σ0 : Sg} {Qk : Int32 → Sg → Prop} (hc0 : kd c0 = (12, 0)) (lc0 : c0 ∈ ids (V)) (m0 : XI V σ0) (l_a1 : 0 ≤ a1.toInt) (u_a1 : a1.toInt ≤ 65535) (pre0 : gr σ0 c0 9 = some 50) (h9ret : ∀ (r : Int32) (σ' : Sg), XI V σ' → FX (fun id => False) (fun id k => (id = c0 ∧ k = 11)) σ0 σ' → (0 ≤ r.toInt) → (r.toInt ≤ 1) → Qk r σ') : K_X2_takes l V c0 a1 σ0 Qk := by
  refine e_X2_takes (fun M hl hV hN C => ?_)
  subst hl
  subst hV
  have gc0 := kdF_ge hc0
  have f0 : FX (fun id => False) (fun id k => (id = c0 ∧ k = 11)) σ0 σ0 := FX_rf
  have t_1 := XI_c1 m0 (k := 10) (lim_F0_10 hc0)
  have t_2 := XI_c1 m0 (k := 11) (lim_F0_11 hc0)
  refine s_X2_takes_0 C hN hc0 lc0 ?_
  refine k_X2_sign hc0 lc0 m0  (by first | with_reducible assumption | with_reducible rfl | omega | assumption | rfl) (fun r2 σ1 mσ1 cσ1 (pσ1_0 : r2.toInt = (sgn σ0 c0).toInt) => ?_)
  obtain rfl := FX_nil cσ1
  have hlt := fun h9 => @sgn_lt σ0 c0 h9
  refine ⟨?_, ?_⟩
  · intro q_3
    have w_4 := Int32.toInt_lt r2
    have w_5 := Int32.le_toInt r2
    have b_6 : r2.toInt = a1.toInt := congrArg Int32.toInt q_3
    intro σ4 eσ4
    have t_7 : ((gi σ0 c0 11) + (1 : Int32)).toInt = (gi σ0 c0 11).toInt + 1 := i_add (x := (gi σ0 c0 11)) (y := (1 : Int32)) (by show (_ : Int) ≤ (gi σ0 c0 11).toInt + 1; omega) (by show (gi σ0 c0 11).toInt + 1 ≤ (_ : Int); omega)
    have mσ4 : XI (mV M) σ4 := by rw [eσ4]; exact XIs_b m0 (lim_F0_11 hc0) (by omega) (by omega)
    have fσ4 : FX (fun id => False) (fun id k => (id = c0 ∧ k = 11)) σ0 σ4 := by rw [eσ4]; exact FX_si f0 (Or.inr (by show (c0 = c0 ∧ 11 = 11); omega))
    have k_8 : (gi σ4 c0 10).toInt = (gi σ0 c0 10).toInt := gk_r eσ4 rfl
    have k_9 : (gi σ4 c0 11).toInt = ((gi σ0 c0 11) + (1 : Int32)).toInt := by rw [eσ4]; exact congrArg Int32.toInt gi_si_eq
    have kr_10 : gr σ4 c0 9 = some 50 := ((by rw [eσ4]; rfl : gr σ4 c0 9 = gr σ0 c0 9)).trans pre0
    have z_11 : (1 : Int32).toInt = 1 := rfl
    exact h9ret (1 : Int32) σ4 mσ4 fσ4 (by omega) (by omega)
  · intro q_3
    have w_12 := Int32.toInt_lt r2
    have w_13 := Int32.le_toInt r2
    have b_14 : ¬ r2.toInt = a1.toInt := fun h9 => q_3 (Int32.toInt_inj.mp h9)
    have z_15 : (0 : Int32).toInt = 0 := rfl
    exact h9ret (0 : Int32) σ0 m0 f0 (by omega) (by omega)
set_option maxRecDepth 100000 in
set_option maxHeartbeats 4000000 in
theorem k_X2_writes {l : Launch} {V : Vx} {c0 : Nat} {a1 : Int32} {σ0 : Sg} {Qk : Sg → Prop} (hc0 : kd c0 = (12, 0)) (lc0 : c0 ∈ ids (V)) (m0 : XI V σ0) (l_a1 : -3 ≤ a1.toInt) (u_a1 : a1.toInt ≤ 1799) (h9ret : ∀ (σ' : Sg), XI V σ' → FX (fun id => id = c0 + 1) (fun id k => (id = c0 ∧ k = 4)) σ0 σ' → Qk σ') : K_X2_writes l V c0 a1 σ0 Qk := by
  refine e_X2_writes (fun M hl hV hN C => ?_)
  subst hl
  subst hV
  have gc0 := kdF_ge hc0
  have f0 : FX (fun id => id = c0 + 1) (fun id k => (id = c0 ∧ k = 4)) σ0 σ0 := FX_rf
  have t_1 := XI_c1 m0 (k := 4) (lim_F0_4 hc0)
  refine s_X2_writes_0 C hN hc0 lc0 ?_
  refine ⟨?_, ?_⟩
  · intro q_2
    have b_3 : (100 : Int) ≤ (gi σ0 c0 4).toInt := Int32.le_iff_toInt_le.mp q_2
    exact h9ret σ0 m0 f0
  · intro q_2
    have b_4 : ¬ (100 : Int) ≤ (gi σ0 c0 4).toInt := fun h9 => q_2 (Int32.le_iff_toInt_le.mpr h9)
    have hv_5 : vp_in (gi σ0 c0 4) 100 := vp_in_iff.mpr ⟨by omega, by omega⟩
    refine ⟨hv_5, ?_⟩
    intro σ3 eσ3
    have mσ3 : XI (mV M) σ3 := by rw [eσ3]; exact XIs_b m0 (lim_F1 hc0 _) (by omega) (by omega)
    have fσ3 : FX (fun id => id = c0 + 1) (fun id k => (id = c0 ∧ k = 4)) σ0 σ3 := by rw [eσ3]; exact FX_si f0 (Or.inl (by show c0 + 1 = c0 + 1; omega))
    have k_6 : (gi σ3 c0 4).toInt = (gi σ0 c0 4).toInt := by rw [eσ3]; exact congrArg Int32.toInt (gi_si_ne (Or.inl (by omega)))
    intro σ4 eσ4
    have t_7 := XI_c1 mσ3 (k := 4) (lim_F0_4 hc0)
    have t_8 : ((gi σ3 c0 4) + (1 : Int32)).toInt = (gi σ3 c0 4).toInt + 1 := i_add (x := (gi σ3 c0 4)) (y := (1 : Int32)) (by show (_ : Int) ≤ (gi σ3 c0 4).toInt + 1; omega) (by show (gi σ3 c0 4).toInt + 1 ≤ (_ : Int); omega)
    have mσ4 : XI (mV M) σ4 := by rw [eσ4]; exact XIs_b mσ3 (lim_F0_4 hc0) (by omega) (by omega)
    have fσ4 : FX (fun id => id = c0 + 1) (fun id k => (id = c0 ∧ k = 4)) σ0 σ4 := by rw [eσ4]; exact FX_si fσ3 (Or.inr (by show (c0 = c0 ∧ 4 = 4); omega))
    have k_9 : (gi σ4 c0 4).toInt = ((gi σ3 c0 4) + (1 : Int32)).toInt := by rw [eσ4]; exact congrArg Int32.toInt gi_si_eq
    exact h9ret σ4 mσ4 fσ4
set_option maxRecDepth 100000 in
set_option maxHeartbeats 4000000 in
theorem k_X2_keeps {l : Launch} {V : Vx} {c0 : Nat} {a1 : Int32} {a2 : Int32} {σ0 : Sg} {Qk : Sg → Prop} (hc0 : kd c0 = (12, 0)) (lc0 : c0 ∈ ids (V)) (m0 : XI V σ0) (h9ret : ∀ (σ' : Sg), XI V σ' → FX (fun id => id = c0 + 2 ∨ id = c0 + 3 ∨ id = c0 + 4) (fun id k => (id = c0 ∧ k = 0) ∨ (id = c0 ∧ k = 1) ∨ (id = c0 ∧ k = 2) ∨ (id = c0 ∧ k = 8)) σ0 σ' → Qk σ') : K_X2_keeps l V c0 a1 a2 σ0 Qk := by
  refine e_X2_keeps (fun M hl hV hN C => ?_)
  subst hl
  subst hV
  have gc0 := kdF_ge hc0
  have T : ∀ n : Nat, (∀ (x1 : Int32) (x2 : Int32) (σ : Sg), XI (mV M) σ → FX (fun id => id = c0 + 2 ∨ id = c0 + 3 ∨ id = c0 + 4) (fun id k => (id = c0 ∧ k = 0) ∨ (id = c0 ∧ k = 1) ∨ (id = c0 ∧ k = 2) ∨ (id = c0 ∧ k = 8)) σ0 σ → 1 < n → PS M 40 [(0, .ref c0), (1, .int x1), (2, .int x2)] [] σ (0, 0)) := by
    intro n
    induction n with
    | zero => exact fun _ _ _ _ _ h8 => absurd h8 (Nat.not_lt_zero _)
    | succ n ih =>
      have ih40 := ih
      · intro x1 x2 σ mσ fσ hmu
        have k_1 : (gi σ c0 4).toInt = (gi σ0 c0 4).toInt := congrArg Int32.toInt (FX_i fσ (show ¬ (c0 = c0 + 2 ∨ c0 = c0 + 3 ∨ c0 = c0 + 4) from by omega) (show ¬ ((c0 = c0 ∧ 4 = 0) ∨ (c0 = c0 ∧ 4 = 1) ∨ (c0 = c0 ∧ 4 = 2) ∨ (c0 = c0 ∧ 4 = 8)) from by omega))
        have t_2 := XI_c1 mσ (k := 4) (lim_F0_4 hc0)
        have t_3 := XI_c1 mσ (k := 8) (lim_F0_8 hc0)
        refine s_X2_keeps_40 C hN hc0 lc0 ?_
        refine ⟨?_, ?_⟩
        · intro q_4
          have b_5 : (10 : Int) ≤ (gi σ c0 8).toInt := Int32.le_iff_toInt_le.mp q_4
          exact h9ret σ mσ fσ
        · intro q_4
          have b_6 : ¬ (10 : Int) ≤ (gi σ c0 8).toInt := fun h9 => q_4 (Int32.le_iff_toInt_le.mpr h9)
          have hv_7 : vp_in (gi σ c0 8) 10 := vp_in_iff.mpr ⟨by omega, by omega⟩
          refine ⟨hv_7, ?_⟩
          intro σ3 eσ3
          have mσ3 : XI (mV M) σ3 := by rw [eσ3]; exact XIs_n mσ (lim_F2 hc0 _)
          have fσ3 : FX (fun id => id = c0 + 2 ∨ id = c0 + 3 ∨ id = c0 + 4) (fun id k => (id = c0 ∧ k = 0) ∨ (id = c0 ∧ k = 1) ∨ (id = c0 ∧ k = 2) ∨ (id = c0 ∧ k = 8)) σ0 σ3 := by rw [eσ3]; exact FX_si fσ (Or.inl (by show c0 + 2 = c0 + 2 ∨ c0 + 2 = c0 + 3 ∨ c0 + 2 = c0 + 4; omega))
          have k_8 : (gi σ3 c0 4).toInt = (gi σ c0 4).toInt := by rw [eσ3]; exact congrArg Int32.toInt (gi_si_ne (Or.inl (by omega)))
          have k_9 : (gi σ3 c0 8).toInt = (gi σ c0 8).toInt := by rw [eσ3]; exact congrArg Int32.toInt (gi_si_ne (Or.inl (by omega)))
          have t_10 := XI_c1 mσ3 (k := 8) (lim_F0_8 hc0)
          have hv_11 : vp_in (gi σ3 c0 8) 10 := vp_in_iff.mpr ⟨by omega, by omega⟩
          refine ⟨hv_11, ?_⟩
          intro σ5 eσ5
          have mσ5 : XI (mV M) σ5 := by rw [eσ5]; exact XIs_n mσ3 (lim_F3 hc0 _)
          have fσ5 : FX (fun id => id = c0 + 2 ∨ id = c0 + 3 ∨ id = c0 + 4) (fun id k => (id = c0 ∧ k = 0) ∨ (id = c0 ∧ k = 1) ∨ (id = c0 ∧ k = 2) ∨ (id = c0 ∧ k = 8)) σ0 σ5 := by rw [eσ5]; exact FX_si fσ3 (Or.inl (by show c0 + 3 = c0 + 2 ∨ c0 + 3 = c0 + 3 ∨ c0 + 3 = c0 + 4; omega))
          have k_12 : (gi σ5 c0 4).toInt = (gi σ3 c0 4).toInt := by rw [eσ5]; exact congrArg Int32.toInt (gi_si_ne (Or.inl (by omega)))
          have k_13 : (gi σ5 c0 8).toInt = (gi σ3 c0 8).toInt := by rw [eσ5]; exact congrArg Int32.toInt (gi_si_ne (Or.inl (by omega)))
          have t_14 := XI_c1 mσ5 (k := 8) (lim_F0_8 hc0)
          have hv_15 : vp_in (gi σ5 c0 8) 10 := vp_in_iff.mpr ⟨by omega, by omega⟩
          refine ⟨hv_15, ?_⟩
          intro σ7 eσ7
          have t_16 := XI_c1 mσ5 (k := 4) (lim_F0_4 hc0)
          have mσ7 : XI (mV M) σ7 := by rw [eσ7]; exact XIs_b mσ5 (lim_F4 hc0 _) (by omega) (by omega)
          have fσ7 : FX (fun id => id = c0 + 2 ∨ id = c0 + 3 ∨ id = c0 + 4) (fun id k => (id = c0 ∧ k = 0) ∨ (id = c0 ∧ k = 1) ∨ (id = c0 ∧ k = 2) ∨ (id = c0 ∧ k = 8)) σ0 σ7 := by rw [eσ7]; exact FX_si fσ5 (Or.inl (by show c0 + 4 = c0 + 2 ∨ c0 + 4 = c0 + 3 ∨ c0 + 4 = c0 + 4; omega))
          have k_17 : (gi σ7 c0 4).toInt = (gi σ5 c0 4).toInt := by rw [eσ7]; exact congrArg Int32.toInt (gi_si_ne (Or.inl (by omega)))
          have k_18 : (gi σ7 c0 8).toInt = (gi σ5 c0 8).toInt := by rw [eσ7]; exact congrArg Int32.toInt (gi_si_ne (Or.inl (by omega)))
          intro σ8 eσ8
          have t_19 := XI_c1 mσ7 (k := 8) (lim_F0_8 hc0)
          have t_20 : ((gi σ7 c0 8) + (1 : Int32)).toInt = (gi σ7 c0 8).toInt + 1 := i_add (x := (gi σ7 c0 8)) (y := (1 : Int32)) (by show (_ : Int) ≤ (gi σ7 c0 8).toInt + 1; omega) (by show (gi σ7 c0 8).toInt + 1 ≤ (_ : Int); omega)
          have mσ8 : XI (mV M) σ8 := by rw [eσ8]; exact XIs_b mσ7 (lim_F0_8 hc0) (by omega) (by omega)
          have fσ8 : FX (fun id => id = c0 + 2 ∨ id = c0 + 3 ∨ id = c0 + 4) (fun id k => (id = c0 ∧ k = 0) ∨ (id = c0 ∧ k = 1) ∨ (id = c0 ∧ k = 2) ∨ (id = c0 ∧ k = 8)) σ0 σ8 := by rw [eσ8]; exact FX_si fσ7 (Or.inr (by show (c0 = c0 ∧ 8 = 0) ∨ (c0 = c0 ∧ 8 = 1) ∨ (c0 = c0 ∧ 8 = 2) ∨ (c0 = c0 ∧ 8 = 8); omega))
          have k_21 : (gi σ8 c0 4).toInt = (gi σ7 c0 4).toInt := gk_r eσ8 rfl
          have k_22 : (gi σ8 c0 8).toInt = ((gi σ7 c0 8) + (1 : Int32)).toInt := by rw [eσ8]; exact congrArg Int32.toInt gi_si_eq
          exact h9ret σ8 mσ8 fσ8
  have U40 := T 9
  have f0 : FX (fun id => id = c0 + 2 ∨ id = c0 + 3 ∨ id = c0 + 4) (fun id k => (id = c0 ∧ k = 0) ∨ (id = c0 ∧ k = 1) ∨ (id = c0 ∧ k = 2) ∨ (id = c0 ∧ k = 8)) σ0 σ0 := FX_rf
  have t_23 := XI_c1 m0 (k := 4) (lim_F0_4 hc0)
  have t_24 := XI_c1 m0 (k := 8) (lim_F0_8 hc0)
  refine s_X2_keeps_0 C hN hc0 lc0 ?_
  refine ⟨?_, ?_⟩
  · intro q_25
    have w_26 := Int32.toInt_lt a1
    have w_27 := Int32.le_toInt a1
    have b_28 : ¬ a1.toInt = 2 := fun h9 => q_25 (Int32.toInt_inj.mp h9)
    refine ⟨?_, ?_⟩
    · intro q_29
      have b_30 : ¬ a1.toInt = 3 := fun h9 => q_29 (Int32.toInt_inj.mp h9)
      refine ⟨?_, ?_⟩
      · intro q_31
        have b_32 : a1.toInt ≤ 3 := Int32.le_iff_toInt_le.mp q_31
        have w_33 := Int32.toInt_lt a2
        have w_34 := Int32.le_toInt a2
        exact U40 a1 a2 σ0 m0 f0 (by omega)
      · intro q_31
        have b_35 : ¬ a1.toInt ≤ 3 := fun h9 => q_31 (Int32.le_iff_toInt_le.mpr h9)
        have z_36 : (1 : Int32).toInt = 1 := rfl
        have w_37 := Int32.toInt_lt a2
        have w_38 := Int32.le_toInt a2
        intro v4 ev4
        have t_39 := jmax_b (1 : Int32) a2
        have t_40 : v4.toInt = (jmax (1 : Int32) a2).toInt := congrArg Int32.toInt ev4
        intro σ5 eσ5
        have mσ5 : XI (mV M) σ5 := by rw [eσ5]; exact XIs_n m0 (lim_F0_n hc0 _ (by decide +kernel))
        have fσ5 : FX (fun id => id = c0 + 2 ∨ id = c0 + 3 ∨ id = c0 + 4) (fun id k => (id = c0 ∧ k = 0) ∨ (id = c0 ∧ k = 1) ∨ (id = c0 ∧ k = 2) ∨ (id = c0 ∧ k = 8)) σ0 σ5 := by rw [eσ5]; exact FX_si f0 (Or.inr (by show (c0 = c0 ∧ 2 = 0) ∨ (c0 = c0 ∧ 2 = 1) ∨ (c0 = c0 ∧ 2 = 2) ∨ (c0 = c0 ∧ 2 = 8); omega))
        have k_41 : (gi σ5 c0 4).toInt = (gi σ0 c0 4).toInt := gk_r eσ5 rfl
        have k_42 : (gi σ5 c0 8).toInt = (gi σ0 c0 8).toInt := gk_r eσ5 rfl
        exact U40 a1 a2 σ5 mσ5 fσ5 (by omega)
    · intro q_29
      have b_43 : a1.toInt = 3 := congrArg Int32.toInt q_29
      intro σ6 eσ6
      have mσ6 : XI (mV M) σ6 := by rw [eσ6]; exact XIs_n m0 (lim_F0_n hc0 _ (by decide +kernel))
      have fσ6 : FX (fun id => id = c0 + 2 ∨ id = c0 + 3 ∨ id = c0 + 4) (fun id k => (id = c0 ∧ k = 0) ∨ (id = c0 ∧ k = 1) ∨ (id = c0 ∧ k = 2) ∨ (id = c0 ∧ k = 8)) σ0 σ6 := by rw [eσ6]; exact FX_si f0 (Or.inr (by show (c0 = c0 ∧ 1 = 0) ∨ (c0 = c0 ∧ 1 = 1) ∨ (c0 = c0 ∧ 1 = 2) ∨ (c0 = c0 ∧ 1 = 8); omega))
      have k_44 : (gi σ6 c0 4).toInt = (gi σ0 c0 4).toInt := gk_r eσ6 rfl
      have k_45 : (gi σ6 c0 8).toInt = (gi σ0 c0 8).toInt := gk_r eσ6 rfl
      have w_46 := Int32.toInt_lt a2
      have w_47 := Int32.le_toInt a2
      exact U40 a1 a2 σ6 mσ6 fσ6 (by omega)
  · intro q_25
    have w_48 := Int32.toInt_lt a1
    have w_49 := Int32.le_toInt a1
    have b_50 : a1.toInt = 2 := congrArg Int32.toInt q_25
    intro σ7 eσ7
    have mσ7 : XI (mV M) σ7 := by rw [eσ7]; exact XIs_n m0 (lim_F0_n hc0 _ (by decide +kernel))
    have fσ7 : FX (fun id => id = c0 + 2 ∨ id = c0 + 3 ∨ id = c0 + 4) (fun id k => (id = c0 ∧ k = 0) ∨ (id = c0 ∧ k = 1) ∨ (id = c0 ∧ k = 2) ∨ (id = c0 ∧ k = 8)) σ0 σ7 := by rw [eσ7]; exact FX_si f0 (Or.inr (by show (c0 = c0 ∧ 0 = 0) ∨ (c0 = c0 ∧ 0 = 1) ∨ (c0 = c0 ∧ 0 = 2) ∨ (c0 = c0 ∧ 0 = 8); omega))
    have k_51 : (gi σ7 c0 4).toInt = (gi σ0 c0 4).toInt := gk_r eσ7 rfl
    have k_52 : (gi σ7 c0 8).toInt = (gi σ0 c0 8).toInt := gk_r eσ7 rfl
    have w_53 := Int32.toInt_lt a2
    have w_54 := Int32.le_toInt a2
    exact U40 a1 a2 σ7 mσ7 fσ7 (by omega)
set_option maxRecDepth 100000 in
set_option maxHeartbeats 4000000 in
theorem k_X2_readsNumber {l : Launch} {V : Vx} {c0 : Nat} {σ0 : Sg} {Qk : Int32 → Sg → Prop} (hc0 : kd c0 = (12, 0)) (lc0 : c0 ∈ ids (V)) (m0 : XI V σ0) (pre0 : gr σ0 c0 9 = some 50) (h9ret : ∀ (r : Int32) (σ' : Sg), XI V σ' → FX (fun id => False) (fun id k => (id = c0 ∧ k = 11)) σ0 σ' → (-1 ≤ r.toInt) → (r.toInt ≤ 99) → Qk r σ') : K_X2_readsNumber l V c0 σ0 Qk := by
  refine e_X2_readsNumber (fun M hl hV hN C => ?_)
  subst hl
  subst hV
  have gc0 := kdF_ge hc0
  have f0 : FX (fun id => False) (fun id k => (id = c0 ∧ k = 11)) σ0 σ0 := FX_rf
  have t_1 := XI_c1 m0 (k := 10) (lim_F0_10 hc0)
  have t_2 := XI_c1 m0 (k := 11) (lim_F0_11 hc0)
  refine s_X2_readsNumber_0 C hN hc0 lc0 ?_
  refine k_X2_isDigit hc0 lc0 m0  (by first | with_reducible assumption | with_reducible rfl | omega | assumption | rfl) (fun r2 σ1 mσ1 cσ1 plσ1 phσ1 (pσ1_0 : (r2.toInt = 1 ∧ 48 ≤ (sgn σ0 c0).toInt ∧ (sgn σ0 c0).toInt ≤ 57) ∨ r2.toInt = 0) => ?_)
  obtain rfl := FX_nil cσ1
  refine ⟨?_, ?_⟩
  · intro q_3
    have b_4 : ¬ r2.toInt = 0 := fun h9 => q_3 (Int32.toInt_inj.mp h9)
    refine k_X2_sign hc0 lc0 m0  (by first | with_reducible assumption | with_reducible rfl | omega | assumption | rfl) (fun r5 σ4 mσ4 cσ4 (pσ4_0 : r5.toInt = (sgn σ0 c0).toInt) => ?_)
    obtain rfl := FX_nil cσ4
    have hlt := fun h9 => @sgn_lt σ0 c0 h9
    intro v6 ev6
    have u6 : v6.toInt = r5.toInt - 48 := by rw [ev6]; exact i_sub (y := (48 : Int32)) (by show _ ≤ r5.toInt - 48; omega) (by show r5.toInt - 48 ≤ _; omega)
    intro σ7 eσ7
    have t_5 : ((gi σ0 c0 11) + (1 : Int32)).toInt = (gi σ0 c0 11).toInt + 1 := i_add (x := (gi σ0 c0 11)) (y := (1 : Int32)) (by show (_ : Int) ≤ (gi σ0 c0 11).toInt + 1; omega) (by show (gi σ0 c0 11).toInt + 1 ≤ (_ : Int); omega)
    have mσ7 : XI (mV M) σ7 := by rw [eσ7]; exact XIs_b m0 (lim_F0_11 hc0) (by omega) (by omega)
    have fσ7 : FX (fun id => False) (fun id k => (id = c0 ∧ k = 11)) σ0 σ7 := by rw [eσ7]; exact FX_si f0 (Or.inr (by show (c0 = c0 ∧ 11 = 11); omega))
    have k_6 : (gi σ7 c0 10).toInt = (gi σ0 c0 10).toInt := gk_r eσ7 rfl
    have k_7 : (gi σ7 c0 11).toInt = ((gi σ0 c0 11) + (1 : Int32)).toInt := by rw [eσ7]; exact congrArg Int32.toInt gi_si_eq
    have kr_8 : gr σ7 c0 9 = some 50 := ((by rw [eσ7]; rfl : gr σ7 c0 9 = gr σ0 c0 9)).trans pre0
    refine k_X2_isDigit hc0 lc0 mσ7  (by first | with_reducible assumption | with_reducible rfl | omega | assumption | rfl) (fun r9 σ8 mσ8 cσ8 plσ8 phσ8 (pσ8_0 : (r9.toInt = 1 ∧ 48 ≤ (sgn σ7 c0).toInt ∧ (sgn σ7 c0).toInt ≤ 57) ∨ r9.toInt = 0) => ?_)
    obtain rfl := FX_nil cσ8
    have t_9 := XI_c1 mσ7 (k := 10) (lim_F0_10 hc0)
    have t_10 := XI_c1 mσ7 (k := 11) (lim_F0_11 hc0)
    refine ⟨?_, ?_⟩
    · intro q_11
      have b_12 : r9.toInt = 0 := congrArg Int32.toInt q_11
      have w_13 := Int32.toInt_lt v6
      have w_14 := Int32.le_toInt v6
      exact h9ret v6 σ7 mσ7 fσ7 (by omega) (by omega)
    · intro q_11
      have b_15 : ¬ r9.toInt = 0 := fun h9 => q_11 (Int32.toInt_inj.mp h9)
      refine k_X2_sign hc0 lc0 mσ7  (by first | with_reducible assumption | with_reducible rfl | omega | assumption | rfl) (fun r12 σ11 mσ11 cσ11 (pσ11_0 : r12.toInt = (sgn σ7 c0).toInt) => ?_)
      obtain rfl := FX_nil cσ11
      have hlt := fun h9 => @sgn_lt σ7 c0 h9
      intro v13 ev13
      have ua : ((10 : Int32) * v6).toInt = 10 * v6.toInt := i_mull rfl (by omega) (by omega)
      have ub : (((10 : Int32) * v6) + r12).toInt = 10 * v6.toInt + r12.toInt := by rw [i_add (by omega) (by omega)]; omega
      have u13 : v13.toInt = 10 * v6.toInt + r12.toInt - 48 := by rw [ev13, i_sub (y := (48 : Int32)) (by show _ ≤ _ - 48; omega) (by show _ - 48 ≤ _; omega)]; show _ - 48 = _; omega
      intro σ14 eσ14
      have t_16 : ((gi σ7 c0 11) + (1 : Int32)).toInt = (gi σ7 c0 11).toInt + 1 := i_add (x := (gi σ7 c0 11)) (y := (1 : Int32)) (by show (_ : Int) ≤ (gi σ7 c0 11).toInt + 1; omega) (by show (gi σ7 c0 11).toInt + 1 ≤ (_ : Int); omega)
      have mσ14 : XI (mV M) σ14 := by rw [eσ14]; exact XIs_b mσ7 (lim_F0_11 hc0) (by omega) (by omega)
      have fσ14 : FX (fun id => False) (fun id k => (id = c0 ∧ k = 11)) σ0 σ14 := by rw [eσ14]; exact FX_si fσ7 (Or.inr (by show (c0 = c0 ∧ 11 = 11); omega))
      have k_17 : (gi σ14 c0 10).toInt = (gi σ7 c0 10).toInt := gk_r eσ14 rfl
      have k_18 : (gi σ14 c0 11).toInt = ((gi σ7 c0 11) + (1 : Int32)).toInt := by rw [eσ14]; exact congrArg Int32.toInt gi_si_eq
      have kr_19 : gr σ14 c0 9 = some 50 := ((by rw [eσ14]; rfl : gr σ14 c0 9 = gr σ7 c0 9)).trans kr_8
      have w_20 := Int32.toInt_lt v13
      have w_21 := Int32.le_toInt v13
      exact h9ret v13 σ14 mσ14 fσ14 (by omega) (by omega)
  · intro q_3
    have b_22 : r2.toInt = 0 := congrArg Int32.toInt q_3
    have z_23 : (-1 : Int32).toInt = -1 := rfl
    exact h9ret (-1 : Int32) σ0 m0 f0 (by omega) (by omega)
set_option maxRecDepth 100000 in
set_option maxHeartbeats 4000000 in
theorem k_X2_signAmong {l : Launch} {V : Vx} {c0 : Nat} {a1 : Nat} {σ0 : Sg} {Qk : Int32 → Sg → Prop} (hc0 : kd c0 = (12, 0)) (lc0 : c0 ∈ ids (V)) (ha1 : a1 < 8) (m0 : XI V σ0) (pre0 : gr σ0 c0 9 = some 50) (h9ret : ∀ (r : Int32) (σ' : Sg), XI V σ' → FX (fun id => False) (fun _ _ => False) σ0 σ' → (-1 ≤ r.toInt) → (r.toInt ≤ 5) → (r.toInt = -1 ∨ (0 ≤ r.toInt ∧ r.toInt < (slen a1 : Int) ∧ 0 ≤ (sgn σ0 c0).toInt)) → Qk r σ') : K_X2_signAmong l V c0 a1 σ0 Qk := by
  refine e_X2_signAmong (fun M hl hV hN C => ?_)
  subst hl
  subst hV
  have gc0 := kdF_ge hc0
  have hn := nI_slen ha1
  have f0 : FX (fun id => False) (fun _ _ => False) σ0 σ0 := FX_rf
  have t_1 := XI_c1 m0 (k := 10) (lim_F0_10 hc0)
  have t_2 := XI_c1 m0 (k := 11) (lim_F0_11 hc0)
  refine s_X2_signAmong_0 C hN hc0 lc0 ha1 ?_
  refine k_X2_sign hc0 lc0 m0  (by first | with_reducible assumption | with_reducible rfl | omega | assumption | rfl) (fun r2 σ1 mσ1 cσ1 (pσ1_0 : r2.toInt = (sgn σ0 c0).toInt) => ?_)
  obtain rfl := FX_nil cσ1
  refine ⟨?_, ?_⟩
  · intro q_3
    have w_4 := Int32.toInt_lt r2
    have w_5 := Int32.le_toInt r2
    have b_6 : (0 : Int) ≤ r2.toInt := Int32.le_iff_toInt_le.mp q_3
    refine k_J0_indexOf_0f7a4 ha1 m0   (fun r5 σ4 mσ4 cσ4 (pσ4_0 : -1 ≤ r5.toInt) (pσ4_1 : r5.toInt < (slen a1 : Int)) => ?_)
    obtain rfl := FX_nil cσ4
    have w_7 := Int32.toInt_lt r5
    have w_8 := Int32.le_toInt r5
    exact h9ret r5 σ0 m0 f0 (by omega) (by omega) (by first | with_reducible assumption | with_reducible rfl | omega | assumption | rfl)
  · intro q_3
    have w_9 := Int32.toInt_lt r2
    have w_10 := Int32.le_toInt r2
    have b_11 : ¬ (0 : Int) ≤ r2.toInt := fun h9 => q_3 (Int32.le_iff_toInt_le.mpr h9)
    have z_12 : (-1 : Int32).toInt = -1 := rfl
    exact h9ret (-1 : Int32) σ0 m0 f0 (by omega) (by omega) (by first | with_reducible assumption | with_reducible rfl | omega | assumption | rfl)
set_option maxRecDepth 100000 in
set_option maxHeartbeats 4000000 in
theorem k_X2_readsTest {l : Launch} {V : Vx} {c0 : Nat} {σ0 : Sg} {Qk : Int32 → Sg → Prop} (hc0 : kd c0 = (12, 0)) (lc0 : c0 ∈ ids (V)) (m0 : XI V σ0) (pre0 : gr σ0 c0 9 = some 50) (h9ret : ∀ (r : Int32) (σ' : Sg), XI V σ' → FX (fun id => id = c0 + 1) (fun id k => (id = c0 ∧ k = 4) ∨ (id = c0 ∧ k = 11)) σ0 σ' → (0 ≤ r.toInt) → (r.toInt ≤ 1) → Qk r σ') : K_X2_readsTest l V c0 σ0 Qk := by
  refine e_X2_readsTest (fun M hl hV hN C => ?_)
  subst hl
  subst hV
  have gc0 := kdF_ge hc0
  have z60 : (slen 0 : Int) = 5 := rfl
  have z66 : (slen 6 : Int) = 6 := rfl
  have z67 : (slen 7 : Int) = 3 := rfl
  have f0 : FX (fun id => id = c0 + 1) (fun id k => (id = c0 ∧ k = 4) ∨ (id = c0 ∧ k = 11)) σ0 σ0 := FX_rf
  have t_1 := XI_c1 m0 (k := 10) (lim_F0_10 hc0)
  have t_2 := XI_c1 m0 (k := 11) (lim_F0_11 hc0)
  refine s_X2_readsTest_0 C hN hc0 lc0 ?_
  have z_3 : (6 : Int32).toInt = 6 := rfl
  refine k_X2_signAmong hc0 lc0 (by decide +kernel) m0  (by first | with_reducible assumption | with_reducible rfl | omega | assumption | rfl) (fun r2 σ1 mσ1 cσ1 plσ1 phσ1 (pσ1_0 : r2.toInt = -1 ∨ (0 ≤ r2.toInt ∧ r2.toInt < (slen 6 : Int) ∧ 0 ≤ (sgn σ0 c0).toInt)) => ?_)
  obtain rfl := FX_nil cσ1
  have hlt := fun h9 => @sgn_lt σ0 c0 h9
  refine ⟨?_, ?_⟩
  · intro q_4
    have b_5 : (0 : Int) ≤ r2.toInt := Int32.le_iff_toInt_le.mp q_4
    intro σ4 eσ4
    have t_6 : ((gi σ0 c0 11) + (1 : Int32)).toInt = (gi σ0 c0 11).toInt + 1 := i_add (x := (gi σ0 c0 11)) (y := (1 : Int32)) (by show (_ : Int) ≤ (gi σ0 c0 11).toInt + 1; omega) (by show (gi σ0 c0 11).toInt + 1 ≤ (_ : Int); omega)
    have mσ4 : XI (mV M) σ4 := by rw [eσ4]; exact XIs_b m0 (lim_F0_11 hc0) (by omega) (by omega)
    have fσ4 : FX (fun id => id = c0 + 1) (fun id k => (id = c0 ∧ k = 4) ∨ (id = c0 ∧ k = 11)) σ0 σ4 := by rw [eσ4]; exact FX_si f0 (Or.inr (by show (c0 = c0 ∧ 11 = 4) ∨ (c0 = c0 ∧ 11 = 11); omega))
    have k_7 : (gi σ4 c0 10).toInt = (gi σ0 c0 10).toInt := gk_r eσ4 rfl
    have k_8 : (gi σ4 c0 11).toInt = ((gi σ0 c0 11) + (1 : Int32)).toInt := by rw [eσ4]; exact congrArg Int32.toInt gi_si_eq
    have kr_9 : gr σ4 c0 9 = some 50 := ((by rw [eσ4]; rfl : gr σ4 c0 9 = gr σ0 c0 9)).trans pre0
    have z_10 : (7 : Int32).toInt = 7 := rfl
    refine k_X2_signAmong hc0 lc0 (by decide +kernel) mσ4  (by first | with_reducible assumption | with_reducible rfl | omega | assumption | rfl) (fun r6 σ5 mσ5 cσ5 plσ5 phσ5 (pσ5_0 : r6.toInt = -1 ∨ (0 ≤ r6.toInt ∧ r6.toInt < (slen 7 : Int) ∧ 0 ≤ (sgn σ4 c0).toInt)) => ?_)
    obtain rfl := FX_nil cσ5
    have t_11 := XI_c1 mσ4 (k := 10) (lim_F0_10 hc0)
    have t_12 := XI_c1 mσ4 (k := 11) (lim_F0_11 hc0)
    have hlt := fun h9 => @sgn_lt σ4 c0 h9
    refine ⟨?_, ?_⟩
    · intro q_13
      have b_14 : (0 : Int) ≤ r6.toInt := Int32.le_iff_toInt_le.mp q_13
      intro σ8 eσ8
      have t_15 : ((gi σ4 c0 11) + (1 : Int32)).toInt = (gi σ4 c0 11).toInt + 1 := i_add (x := (gi σ4 c0 11)) (y := (1 : Int32)) (by show (_ : Int) ≤ (gi σ4 c0 11).toInt + 1; omega) (by show (gi σ4 c0 11).toInt + 1 ≤ (_ : Int); omega)
      have mσ8 : XI (mV M) σ8 := by rw [eσ8]; exact XIs_b mσ4 (lim_F0_11 hc0) (by omega) (by omega)
      have fσ8 : FX (fun id => id = c0 + 1) (fun id k => (id = c0 ∧ k = 4) ∨ (id = c0 ∧ k = 11)) σ0 σ8 := by rw [eσ8]; exact FX_si fσ4 (Or.inr (by show (c0 = c0 ∧ 11 = 4) ∨ (c0 = c0 ∧ 11 = 11); omega))
      have k_16 : (gi σ8 c0 10).toInt = (gi σ4 c0 10).toInt := gk_r eσ8 rfl
      have k_17 : (gi σ8 c0 11).toInt = ((gi σ4 c0 11) + (1 : Int32)).toInt := by rw [eσ8]; exact congrArg Int32.toInt gi_si_eq
      have kr_18 : gr σ8 c0 9 = some 50 := ((by rw [eσ8]; rfl : gr σ8 c0 9 = gr σ4 c0 9)).trans kr_9
      refine k_X2_readsNumber hc0 lc0 mσ8  (by first | with_reducible assumption | with_reducible rfl | omega | assumption | rfl) (fun r10 σ9 mσ9 cσ9 plσ9 phσ9 => ?_)
      have fσ9 : FX (fun id => id = c0 + 1) (fun id k => (id = c0 ∧ k = 4) ∨ (id = c0 ∧ k = 11)) σ0 σ9 := FX_tr fσ8 cσ9 (fun _ h9 => h9.elim) (fun x k (h9 : (x = c0 ∧ k = 11)) => show (x = c0 + 1) ∨ ((x = c0 ∧ k = 4) ∨ (x = c0 ∧ k = 11)) from by omega)
      have k_19 : (gi σ9 c0 10).toInt = (gi σ8 c0 10).toInt := congrArg Int32.toInt (FX_i cσ9 id (show ¬ ((c0 = c0 ∧ 10 = 11)) from by omega))
      have t_20 := XI_c1 mσ9 (k := 11) (lim_F0_11 hc0)
      have kr_21 : gr σ9 c0 9 = some 50 := (FX_r cσ9 id (show ¬ ((c0 = c0 ∧ 9 = 11)) from by omega)).trans kr_18
      refine ⟨?_, ?_⟩
      · intro q_22
        have b_23 : (0 : Int) ≤ r10.toInt := Int32.le_iff_toInt_le.mp q_22
        have t_24 : (r2 * (300 : Int32)).toInt = r2.toInt * 300 := i_mulr rfl (by omega) (by omega)
        have t_25 : (r6 * (100 : Int32)).toInt = r6.toInt * 100 := i_mulr rfl (by omega) (by omega)
        have t_26 : ((r2 * (300 : Int32)) + (r6 * (100 : Int32))).toInt = (r2 * (300 : Int32)).toInt + (r6 * (100 : Int32)).toInt := i_add (x := (r2 * (300 : Int32))) (y := (r6 * (100 : Int32))) (by show (_ : Int) ≤ (r2 * (300 : Int32)).toInt + (r6 * (100 : Int32)).toInt; omega) (by show (r2 * (300 : Int32)).toInt + (r6 * (100 : Int32)).toInt ≤ (_ : Int); omega)
        have t_27 : (((r2 * (300 : Int32)) + (r6 * (100 : Int32))) + r10).toInt = ((r2 * (300 : Int32)) + (r6 * (100 : Int32))).toInt + r10.toInt := i_add (x := ((r2 * (300 : Int32)) + (r6 * (100 : Int32)))) (y := r10) (by show (_ : Int) ≤ ((r2 * (300 : Int32)) + (r6 * (100 : Int32))).toInt + r10.toInt; omega) (by show ((r2 * (300 : Int32)) + (r6 * (100 : Int32))).toInt + r10.toInt ≤ (_ : Int); omega)
        refine k_X2_writes hc0 lc0 mσ9  (by omega) (by omega) (fun σ12 mσ12 cσ12 => ?_)
        have fσ12 : FX (fun id => id = c0 + 1) (fun id k => (id = c0 ∧ k = 4) ∨ (id = c0 ∧ k = 11)) σ0 σ12 := FX_tr fσ9 cσ12 (fun x (h9 : x = c0 + 1) => show x = c0 + 1 from by omega) (fun x k (h9 : (x = c0 ∧ k = 4)) => show (x = c0 + 1) ∨ ((x = c0 ∧ k = 4) ∨ (x = c0 ∧ k = 11)) from by omega)
        have k_28 : (gi σ12 c0 10).toInt = (gi σ9 c0 10).toInt := congrArg Int32.toInt (FX_i cσ12 (show ¬ (c0 = c0 + 1) from by omega) (show ¬ ((c0 = c0 ∧ 10 = 4)) from by omega))
        have k_29 : (gi σ12 c0 11).toInt = (gi σ9 c0 11).toInt := congrArg Int32.toInt (FX_i cσ12 (show ¬ (c0 = c0 + 1) from by omega) (show ¬ ((c0 = c0 ∧ 11 = 4)) from by omega))
        have kr_30 : gr σ12 c0 9 = some 50 := (FX_r cσ12 (show ¬ (c0 = c0 + 1) from by omega) (show ¬ ((c0 = c0 ∧ 9 = 4)) from by omega)).trans kr_21
        have z_31 : (1 : Int32).toInt = 1 := rfl
        exact h9ret (1 : Int32) σ12 mσ12 fσ12 (by omega) (by omega)
      · intro q_22
        have b_32 : ¬ (0 : Int) ≤ r10.toInt := fun h9 => q_22 (Int32.le_iff_toInt_le.mpr h9)
        have z_33 : (0 : Int32).toInt = 0 := rfl
        exact h9ret (0 : Int32) σ9 mσ9 fσ9 (by omega) (by omega)
    · intro q_13
      have b_34 : ¬ (0 : Int) ≤ r6.toInt := fun h9 => q_13 (Int32.le_iff_toInt_le.mpr h9)
      have z_35 : (0 : Int32).toInt = 0 := rfl
      exact h9ret (0 : Int32) σ4 mσ4 fσ4 (by omega) (by omega)
  · intro q_4
    have b_36 : ¬ (0 : Int) ≤ r2.toInt := fun h9 => q_4 (Int32.le_iff_toInt_le.mpr h9)
    have z_37 : (0 : Int32).toInt = 0 := rfl
    exact h9ret (0 : Int32) σ0 m0 f0 (by omega) (by omega)
set_option maxRecDepth 100000 in
set_option maxHeartbeats 4000000 in
theorem k_X2_wordOf {l : Launch} {V : Vx} {a1 : Int32} {σ0 : Sg} {Qk : Nat → Sg → Prop} (m0 : XI V σ0) (h9ret : ∀ (r : Nat) (σ' : Sg), XI V σ' → FX (fun id => False) (fun _ _ => False) σ0 σ' → (∃ i : Nat, r = 200 + i ∧ i < 8) → Qk r σ') : K_X2_wordOf l V a1 σ0 Qk := by
  refine e_X2_wordOf (fun M hl hV hN C => ?_)
  subst hl
  subst hV
  have f0 : FX (fun id => False) (fun _ _ => False) σ0 σ0 := FX_rf
  refine s_X2_wordOf_0 C hN  ?_
  refine ⟨?_, ?_, ?_, ?_, ?_⟩
  · intro q_1
    exact h9ret (200 + 5) σ0 m0 f0 (⟨_, rfl, by decide +kernel⟩)
  · intro q_1
    exact h9ret (200 + 1) σ0 m0 f0 (⟨_, rfl, by decide +kernel⟩)
  · intro q_1
    exact h9ret (200 + 2) σ0 m0 f0 (⟨_, rfl, by decide +kernel⟩)
  · intro q_1
    exact h9ret (200 + 3) σ0 m0 f0 (⟨_, rfl, by decide +kernel⟩)
  · intro q_1
    exact h9ret (200 + 4) σ0 m0 f0 (⟨_, rfl, by decide +kernel⟩)
set_option maxRecDepth 100000 in
set_option maxHeartbeats 4000000 in
theorem k_X2_fault {l : Launch} {V : Vx} {c0 : Nat} {σ0 : Sg} {Qk : Int32 → Sg → Prop} (hc0 : kd c0 = (12, 0)) (lc0 : c0 ∈ ids (V)) (m0 : XI V σ0) (h9ret : ∀ (r : Int32) (σ' : Sg), XI V σ' → FX (fun id => False) (fun _ _ => False) σ0 σ' → Qk r σ') : K_X2_fault l V c0 σ0 Qk := by
  refine e_X2_fault (fun M hl hV hN C => ?_)
  subst hl
  subst hV
  have gc0 := kdF_ge hc0
  have f0 : FX (fun id => False) (fun _ _ => False) σ0 σ0 := FX_rf
  have t_1 := XI_c1 m0 (k := 11) (lim_F0_11 hc0)
  refine s_X2_fault_0 C hN hc0 lc0 ?_
  exact h9ret (gi σ0 c0 11) σ0 m0 f0
set_option maxRecDepth 100000 in
set_option maxHeartbeats 4000000 in
theorem k_X2_readsWord {l : Launch} {V : Vx} {c0 : Nat} {a1 : Int32} {σ0 : Sg} {Qk : Int32 → Sg → Prop} (hc0 : kd c0 = (12, 0)) (lc0 : c0 ∈ ids (V)) (m0 : XI V σ0) (pre0 : gr σ0 c0 9 = some 50) (h9ret : ∀ (r : Int32) (σ' : Sg), XI V σ' → FX (fun id => False) (fun id k => (id = c0 ∧ k = 11)) σ0 σ' → (0 ≤ r.toInt) → (r.toInt ≤ 1) → Qk r σ') : K_X2_readsWord l V c0 a1 σ0 Qk := by
  refine e_X2_readsWord (fun M hl hV hN C => ?_)
  subst hl
  subst hV
  have gc0 : hid _ := kdF_ge hc0
  have T : ∀ n : Nat, (∀ (x2 : Nat) (x3 : Int32) (σ : Sg) (hx2 : x2 < 8), XI (mV M) σ → FX (fun id => False) (fun id k => (id = c0 ∧ k = 11)) σ0 σ → (0 ≤ x3.toInt) → (x3.toInt ≤ 6) → (7 - x3.toInt).toNat < n → PS M 7 [(0, .ref c0), (2, .ref (200 + x2)), (3, .int x3)] [] σ (0, 0)) := by
    intro n
    induction n with
    | zero => exact fun _ _ _ _ _ _ _ _ h8 => absurd h8 (Nat.not_lt_zero _)
    | succ n ih =>
      have ih7 := ih
      · intro x2 x3 σ hx2 mσ fσ lx3 ux3 hmu
        have kr_c0_9 : gr σ c0 9 = some 50 := (FX_r fσ id (show ¬ ((c0 = c0 ∧ 9 = 11)) from by first | omega | (have ugc0 := un gc0; omega))).trans pre0
        have k_1 : (gi σ c0 10).toInt = (gi σ0 c0 10).toInt := congrArg Int32.toInt (FX_i fσ id (show ¬ ((c0 = c0 ∧ 10 = 11)) from by first | omega | (have ugc0 := un gc0; omega)))
        have t_2 := XI_c1 mσ (id := c0) (k := 10) (lim_F0_10 hc0)
        have t_3 := XI_c1 mσ (id := c0) (k := 11) (lim_F0_11 hc0)
        have hn := nI_slen hx2
        refine s_X2_readsWord_7 C hN hc0 lc0 hx2 ?_
        refine k_J0_length_8abf5 hx2 mσ   (fun r2 σ1 mσ1 cσ1 (pσ1_0 : r2.toInt = (slen x2 : Int)) => ?_)
        obtain rfl := FX_nil cσ1
        refine ⟨?_, ?_⟩
        · intro q_4
          have w_5 := Int32.toInt_lt r2
          have w_6 := Int32.le_toInt r2
          have b_7 : r2.toInt ≤ x3.toInt := Int32.le_iff_toInt_le.mp q_4
          have z_8 : (1 : Int32).toInt = 1 := rfl
          exact h9ret (1 : Int32) σ mσ fσ (by omega) (by omega)
        · intro q_4
          have w_9 := Int32.toInt_lt r2
          have w_10 := Int32.le_toInt r2
          have b_11 : ¬ r2.toInt ≤ x3.toInt := fun h9 => q_4 (Int32.le_iff_toInt_le.mpr h9)
          refine k_J0_charAt_5068e hx2 mσ  (vp_in_iff.mpr ⟨by omega, by omega⟩) (fun r5 σ4 mσ4 cσ4 (pσ4_0 : 32 ≤ r5.toInt ∧ r5.toInt ≤ 127) (pσ4_1 : r5 = sby x2 x3.toNatClampNeg) => ?_)
          obtain rfl := FX_nil cσ4
          refine k_X2_takes hc0 lc0 mσ  (by omega) (by omega) (by first | with_reducible assumption | with_reducible rfl | omega | assumption | rfl) (fun r7 σ6 mσ6 cσ6 plσ6 phσ6 => ?_)
          have fσ6 : FX (fun id => False) (fun id k => (id = c0 ∧ k = 11)) σ0 σ6 := FX_tr fσ cσ6 (fun _ h9 => h9.elim) (fun x k (h9 : (x = c0 ∧ k = 11)) => (show (False) ∨ ((x = c0 ∧ k = 11)) from Or.inr (show (x = c0 ∧ k = 11) from h9)))
          have k_12 : (gi σ6 c0 10).toInt = (gi σ c0 10).toInt := congrArg Int32.toInt (FX_i cσ6 id (show ¬ ((c0 = c0 ∧ 10 = 11)) from by first | omega | (have ugc0 := un gc0; omega)))
          have t_13 := XI_c1 mσ6 (id := c0) (k := 11) (lim_F0_11 hc0)
          have kr_14 : gr σ6 c0 9 = some 50 := (FX_r cσ6 id (show ¬ ((c0 = c0 ∧ 9 = 11)) from by first | omega | (have ugc0 := un gc0; omega))).trans kr_c0_9
          refine ⟨?_, ?_⟩
          · intro q_15
            have b_16 : ¬ r7.toInt = 0 := fun h9 => q_15 (Int32.toInt_inj.mp h9)
            intro v9 ev9
            have t_17 : (x3 + (1 : Int32)).toInt = x3.toInt + 1 := i_add (x := x3) (y := (1 : Int32)) (by show (_ : Int) ≤ x3.toInt + 1; omega) (by show x3.toInt + 1 ≤ (_ : Int); omega)
            have t_18 : v9.toInt = (x3 + (1 : Int32)).toInt := congrArg Int32.toInt ev9
            exact ih7 x2 v9 σ6 hx2 mσ6 fσ6 (by omega) (by omega) (by omega)
          · intro q_15
            have b_19 : r7.toInt = 0 := congrArg Int32.toInt q_15
            have z_20 : (0 : Int32).toInt = 0 := rfl
            exact h9ret (0 : Int32) σ6 mσ6 fσ6 (by omega) (by omega)
  have U7 := T 9
  have f0 : FX (fun id => False) (fun id k => (id = c0 ∧ k = 11)) σ0 σ0 := FX_rf
  have t_21 := XI_c1 m0 (id := c0) (k := 10) (lim_F0_10 hc0)
  have t_22 := XI_c1 m0 (id := c0) (k := 11) (lim_F0_11 hc0)
  refine s_X2_readsWord_0 C hN hc0 lc0 ?_
  refine k_X2_wordOf m0 (fun b9 σ1 m9 c9 p9 => ?_)
  obtain rfl := FX_nil c9
  obtain ⟨a2, ea9, ha2⟩ := p9
  refine ⟨a2, ea9, ha2, ?_⟩
  have hna2 := nI_slen ha2
  have z_23 : (0 : Int32).toInt = 0 := rfl
  exact U7 a2 (0 : Int32) σ0 ha2 m0 f0 (by omega) (by omega) (by omega)
set_option maxRecDepth 100000 in
set_option maxHeartbeats 4000000 in
theorem k_X2_readsPart_r4 {l : Launch} {V : Vx} {c0 : Nat} {a1 : Int32} {σ0 : Sg} {Qk : Int32 → Sg → Prop} (hc0 : kd c0 = (12, 0)) (lc0 : c0 ∈ ids (V)) (m0 : XI V σ0) (l_a1 : 4 ≤ a1.toInt) (u_a1 : a1.toInt ≤ 4) (pre0 : gr σ0 c0 9 = some 50) (h9ret : ∀ (r : Int32) (σ' : Sg), XI V σ' → FX (fun id => id = c0 + 1) (fun id k => (id = c0 ∧ k = 4) ∨ (id = c0 ∧ k = 11)) σ0 σ' → (0 ≤ r.toInt) → (r.toInt ≤ 1) → Qk r σ') : K_X2_readsPart_r4 l V c0 a1 σ0 Qk := by
  refine e_X2_readsPart_r4 (fun M hl hV hN C => ?_)
  subst hl
  subst hV
  have gc0 : hid _ := kdF_ge hc0
  have T : ∀ n : Nat, (∀ (x1 : Int32) (σ : Sg), XI (mV M) σ → FX (fun id => id = c0 + 1) (fun id k => (id = c0 ∧ k = 4) ∨ (id = c0 ∧ k = 11)) σ0 σ → (4 ≤ x1.toInt) → (x1.toInt ≤ 4) → 1 < n → PS M 33 [(0, .ref c0), (1, .int x1)] [] σ (0, 0)) := by
    intro n
    induction n with
    | zero => exact fun _ _ _ _ _ _ h8 => absurd h8 (Nat.not_lt_zero _)
    | succ n ih =>
      have ih33 := ih
      · intro x1 σ mσ fσ lx1 ux1 hmu
        have kr_c0_9 : gr σ c0 9 = some 50 := (FX_r fσ (show ¬ (c0 = c0 + 1) from by first | omega | (have ugc0 := un gc0; omega)) (show ¬ ((c0 = c0 ∧ 9 = 4) ∨ (c0 = c0 ∧ 9 = 11)) from by first | omega | (have ugc0 := un gc0; omega))).trans pre0
        have k_1 : (gi σ c0 10).toInt = (gi σ0 c0 10).toInt := congrArg Int32.toInt (FX_i fσ (show ¬ (c0 = c0 + 1) from by first | omega | (have ugc0 := un gc0; omega)) (show ¬ ((c0 = c0 ∧ 10 = 4) ∨ (c0 = c0 ∧ 10 = 11)) from by first | omega | (have ugc0 := un gc0; omega)))
        have t_2 := XI_c1 mσ (id := c0) (k := 10) (lim_F0_10 hc0)
        have t_3 := XI_c1 mσ (id := c0) (k := 11) (lim_F0_11 hc0)
        refine s_X2_readsPart_r4_33 C hN hc0 lc0 ?_
        refine ⟨?_, ?_⟩
        · intro q_4
          have b_5 : (4 : Int) ≤ x1.toInt := Int32.le_iff_toInt_le.mp q_4
          refine k_X2_readsTest hc0 lc0 mσ  (by first | with_reducible assumption | with_reducible rfl | omega | assumption | rfl) (fun r3 σ2 mσ2 cσ2 plσ2 phσ2 => ?_)
          have fσ2 : FX (fun id => id = c0 + 1) (fun id k => (id = c0 ∧ k = 4) ∨ (id = c0 ∧ k = 11)) σ0 σ2 := FX_tr fσ cσ2 (fun x (h9 : x = c0 + 1) => (show x = c0 + 1 from h9)) (fun x k (h9 : (x = c0 ∧ k = 4) ∨ (x = c0 ∧ k = 11)) => (show (x = c0 + 1) ∨ ((x = c0 ∧ k = 4) ∨ (x = c0 ∧ k = 11)) from h9.elim (fun e9 => Or.inr (show (x = c0 ∧ k = 4) ∨ (x = c0 ∧ k = 11) from Or.inl (e9))) (fun h9 => Or.inr (show (x = c0 ∧ k = 4) ∨ (x = c0 ∧ k = 11) from Or.inr (h9)))))
          have k_6 : (gi σ2 c0 10).toInt = (gi σ c0 10).toInt := congrArg Int32.toInt (FX_i cσ2 (show ¬ (c0 = c0 + 1) from by first | omega | (have ugc0 := un gc0; omega)) (show ¬ ((c0 = c0 ∧ 10 = 4) ∨ (c0 = c0 ∧ 10 = 11)) from by first | omega | (have ugc0 := un gc0; omega)))
          have t_7 := XI_c1 mσ2 (id := c0) (k := 11) (lim_F0_11 hc0)
          have kr_8 : gr σ2 c0 9 = some 50 := (FX_r cσ2 (show ¬ (c0 = c0 + 1) from by first | omega | (have ugc0 := un gc0; omega)) (show ¬ ((c0 = c0 ∧ 9 = 4) ∨ (c0 = c0 ∧ 9 = 11)) from by first | omega | (have ugc0 := un gc0; omega))).trans kr_c0_9
          refine ⟨i_bool (by omega) (by omega), ?_⟩
          exact h9ret r3 σ2 mσ2 fσ2 (by omega) (by omega)
        · intro q_4
          have b_9 : ¬ (4 : Int) ≤ x1.toInt := fun h9 => q_4 (Int32.le_iff_toInt_le.mpr h9)
          have z_10 : (40 : Int32).toInt = 40 := rfl
          refine k_X2_takes hc0 lc0 mσ  (by omega) (by omega) (by first | with_reducible assumption | with_reducible rfl | omega | assumption | rfl) (fun r5 σ4 mσ4 cσ4 plσ4 phσ4 => ?_)
          have fσ4 : FX (fun id => id = c0 + 1) (fun id k => (id = c0 ∧ k = 4) ∨ (id = c0 ∧ k = 11)) σ0 σ4 := FX_tr fσ cσ4 (fun _ h9 => h9.elim) (fun x k (h9 : (x = c0 ∧ k = 11)) => (show (x = c0 + 1) ∨ ((x = c0 ∧ k = 4) ∨ (x = c0 ∧ k = 11)) from Or.inr (show (x = c0 ∧ k = 4) ∨ (x = c0 ∧ k = 11) from Or.inr (h9))))
          have k_11 : (gi σ4 c0 10).toInt = (gi σ c0 10).toInt := congrArg Int32.toInt (FX_i cσ4 id (show ¬ ((c0 = c0 ∧ 10 = 11)) from by first | omega | (have ugc0 := un gc0; omega)))
          have t_12 := XI_c1 mσ4 (id := c0) (k := 11) (lim_F0_11 hc0)
          have kr_13 : gr σ4 c0 9 = some 50 := (FX_r cσ4 id (show ¬ ((c0 = c0 ∧ 9 = 11)) from by first | omega | (have ugc0 := un gc0; omega))).trans kr_c0_9
          refine ⟨?_, ?_⟩
          · intro q_14
            have b_15 : r5.toInt = 0 := congrArg Int32.toInt q_14
            refine k_X2_readsTest hc0 lc0 mσ4  (by first | with_reducible assumption | with_reducible rfl | omega | assumption | rfl) (fun r8 σ7 mσ7 cσ7 plσ7 phσ7 => ?_)
            have fσ7 : FX (fun id => id = c0 + 1) (fun id k => (id = c0 ∧ k = 4) ∨ (id = c0 ∧ k = 11)) σ0 σ7 := FX_tr fσ4 cσ7 (fun x (h9 : x = c0 + 1) => (show x = c0 + 1 from h9)) (fun x k (h9 : (x = c0 ∧ k = 4) ∨ (x = c0 ∧ k = 11)) => (show (x = c0 + 1) ∨ ((x = c0 ∧ k = 4) ∨ (x = c0 ∧ k = 11)) from h9.elim (fun e9 => Or.inr (show (x = c0 ∧ k = 4) ∨ (x = c0 ∧ k = 11) from Or.inl (e9))) (fun h9 => Or.inr (show (x = c0 ∧ k = 4) ∨ (x = c0 ∧ k = 11) from Or.inr (h9)))))
            have k_16 : (gi σ7 c0 10).toInt = (gi σ4 c0 10).toInt := congrArg Int32.toInt (FX_i cσ7 (show ¬ (c0 = c0 + 1) from by first | omega | (have ugc0 := un gc0; omega)) (show ¬ ((c0 = c0 ∧ 10 = 4) ∨ (c0 = c0 ∧ 10 = 11)) from by first | omega | (have ugc0 := un gc0; omega)))
            have t_17 := XI_c1 mσ7 (id := c0) (k := 11) (lim_F0_11 hc0)
            have kr_18 : gr σ7 c0 9 = some 50 := (FX_r cσ7 (show ¬ (c0 = c0 + 1) from by first | omega | (have ugc0 := un gc0; omega)) (show ¬ ((c0 = c0 ∧ 9 = 4) ∨ (c0 = c0 ∧ 9 = 11)) from by first | omega | (have ugc0 := un gc0; omega))).trans kr_13
            refine ⟨i_bool (by omega) (by omega), ?_⟩
            exact h9ret r8 σ7 mσ7 fσ7 (by omega) (by omega)
          · intro q_14
            have b_19 : ¬ r5.toInt = 0 := fun h9 => q_14 (Int32.toInt_inj.mp h9)
            exfalso; omega
  have U33 := T 9
  have f0 : FX (fun id => id = c0 + 1) (fun id k => (id = c0 ∧ k = 4) ∨ (id = c0 ∧ k = 11)) σ0 σ0 := FX_rf
  have t_20 := XI_c1 m0 (id := c0) (k := 10) (lim_F0_10 hc0)
  have t_21 := XI_c1 m0 (id := c0) (k := 11) (lim_F0_11 hc0)
  refine s_X2_readsPart_r4_0 C hN hc0 lc0 ?_
  refine ⟨?_, ?_⟩
  · intro q_22
    have b_23 : (4 : Int) ≤ a1.toInt := Int32.le_iff_toInt_le.mp q_22
    exact U33 a1 σ0 m0 f0 (by omega) (by omega) (by omega)
  · intro q_22
    have b_24 : ¬ (4 : Int) ≤ a1.toInt := fun h9 => q_22 (Int32.le_iff_toInt_le.mpr h9)
    have z_25 : (33 : Int32).toInt = 33 := rfl
    refine k_X2_takes hc0 lc0 m0  (by omega) (by omega) (by first | with_reducible assumption | with_reducible rfl | omega | assumption | rfl) (fun r3 σ2 mσ2 cσ2 plσ2 phσ2 => ?_)
    have fσ2 : FX (fun id => id = c0 + 1) (fun id k => (id = c0 ∧ k = 4) ∨ (id = c0 ∧ k = 11)) σ0 σ2 := FX_tr f0 cσ2 (fun _ h9 => h9.elim) (fun x k (h9 : (x = c0 ∧ k = 11)) => (show (x = c0 + 1) ∨ ((x = c0 ∧ k = 4) ∨ (x = c0 ∧ k = 11)) from Or.inr (show (x = c0 ∧ k = 4) ∨ (x = c0 ∧ k = 11) from Or.inr (h9))))
    have k_26 : (gi σ2 c0 10).toInt = (gi σ0 c0 10).toInt := congrArg Int32.toInt (FX_i cσ2 id (show ¬ ((c0 = c0 ∧ 10 = 11)) from by first | omega | (have ugc0 := un gc0; omega)))
    have t_27 := XI_c1 mσ2 (id := c0) (k := 11) (lim_F0_11 hc0)
    have kr_28 : gr σ2 c0 9 = some 50 := (FX_r cσ2 id (show ¬ ((c0 = c0 ∧ 9 = 11)) from by first | omega | (have ugc0 := un gc0; omega))).trans pre0
    refine ⟨?_, ?_⟩
    · intro q_29
      have b_30 : r3.toInt = 0 := congrArg Int32.toInt q_29
      exact U33 a1 σ2 mσ2 fσ2 (by omega) (by omega) (by omega)
    · intro q_29
      have b_31 : ¬ r3.toInt = 0 := fun h9 => q_29 (Int32.toInt_inj.mp h9)
      exfalso; omega
set_option maxRecDepth 100000 in
set_option maxHeartbeats 4000000 in
theorem k_X2_readsBoth_r4 {l : Launch} {V : Vx} {c0 : Nat} {a1 : Int32} {σ0 : Sg} {Qk : Int32 → Sg → Prop} (hc0 : kd c0 = (12, 0)) (lc0 : c0 ∈ ids (V)) (m0 : XI V σ0) (l_a1 : 4 ≤ a1.toInt) (u_a1 : a1.toInt ≤ 4) (pre0 : gr σ0 c0 9 = some 50) (h9ret : ∀ (r : Int32) (σ' : Sg), XI V σ' → FX (fun id => id = c0 + 1) (fun id k => (id = c0 ∧ k = 4) ∨ (id = c0 ∧ k = 11)) σ0 σ' → (0 ≤ r.toInt) → (r.toInt ≤ 1) → Qk r σ') : K_X2_readsBoth_r4 l V c0 a1 σ0 Qk := by
  refine e_X2_readsBoth_r4 (fun M hl hV hN C => ?_)
  subst hl
  subst hV
  have gc0 : hid _ := kdF_ge hc0
  have T : ∀ n : Nat, (∀ (x1 : Int32) (x2 : Int32) (σ : Sg), XI (mV M) σ → FX (fun id => id = c0 + 1) (fun id k => (id = c0 ∧ k = 4) ∨ (id = c0 ∧ k = 11)) σ0 σ → (4 ≤ x1.toInt) → (x1.toInt ≤ 4) → (0 ≤ x2.toInt) → (x2.toInt ≤ 100) → (101 - x2.toInt).toNat < n → PS M 12 [(0, .ref c0), (1, .int x1), (2, .int x2)] [] σ (0, 0)) := by
    intro n
    induction n with
    | zero => exact fun _ _ _ _ _ _ _ _ _ h8 => absurd h8 (Nat.not_lt_zero _)
    | succ n ih =>
      have ih12 := ih
      · intro x1 x2 σ mσ fσ lx1 ux1 lx2 ux2 hmu
        have kr_c0_9 : gr σ c0 9 = some 50 := (FX_r fσ (show ¬ (c0 = c0 + 1) from by first | omega | (have ugc0 := un gc0; omega)) (show ¬ ((c0 = c0 ∧ 9 = 4) ∨ (c0 = c0 ∧ 9 = 11)) from by first | omega | (have ugc0 := un gc0; omega))).trans pre0
        have k_1 : (gi σ c0 10).toInt = (gi σ0 c0 10).toInt := congrArg Int32.toInt (FX_i fσ (show ¬ (c0 = c0 + 1) from by first | omega | (have ugc0 := un gc0; omega)) (show ¬ ((c0 = c0 ∧ 10 = 4) ∨ (c0 = c0 ∧ 10 = 11)) from by first | omega | (have ugc0 := un gc0; omega)))
        have t_2 := XI_c1 mσ (id := c0) (k := 10) (lim_F0_10 hc0)
        have t_3 := XI_c1 mσ (id := c0) (k := 11) (lim_F0_11 hc0)
        refine s_X2_readsBoth_r4_12 C hN hc0 lc0 ?_
        refine ⟨?_, ?_⟩
        · intro q_4
          have b_5 : (100 : Int) ≤ x2.toInt := Int32.le_iff_toInt_le.mp q_4
          have z_6 : (1 : Int32).toInt = 1 := rfl
          exact h9ret (1 : Int32) σ mσ fσ (by omega) (by omega)
        · intro q_4
          have b_7 : ¬ (100 : Int) ≤ x2.toInt := fun h9 => q_4 (Int32.le_iff_toInt_le.mpr h9)
          have z_8 : (38 : Int32).toInt = 38 := rfl
          refine k_X2_takes hc0 lc0 mσ  (by omega) (by omega) (by first | with_reducible assumption | with_reducible rfl | omega | assumption | rfl) (fun r3 σ2 mσ2 cσ2 plσ2 phσ2 => ?_)
          have fσ2 : FX (fun id => id = c0 + 1) (fun id k => (id = c0 ∧ k = 4) ∨ (id = c0 ∧ k = 11)) σ0 σ2 := FX_tr fσ cσ2 (fun _ h9 => h9.elim) (fun x k (h9 : (x = c0 ∧ k = 11)) => (show (x = c0 + 1) ∨ ((x = c0 ∧ k = 4) ∨ (x = c0 ∧ k = 11)) from Or.inr (show (x = c0 ∧ k = 4) ∨ (x = c0 ∧ k = 11) from Or.inr (h9))))
          have k_9 : (gi σ2 c0 10).toInt = (gi σ c0 10).toInt := congrArg Int32.toInt (FX_i cσ2 id (show ¬ ((c0 = c0 ∧ 10 = 11)) from by first | omega | (have ugc0 := un gc0; omega)))
          have t_10 := XI_c1 mσ2 (id := c0) (k := 11) (lim_F0_11 hc0)
          have kr_11 : gr σ2 c0 9 = some 50 := (FX_r cσ2 id (show ¬ ((c0 = c0 ∧ 9 = 11)) from by first | omega | (have ugc0 := un gc0; omega))).trans kr_c0_9
          refine ⟨?_, ?_⟩
          · intro q_12
            have b_13 : r3.toInt = 0 := congrArg Int32.toInt q_12
            have z_14 : (1 : Int32).toInt = 1 := rfl
            exact h9ret (1 : Int32) σ2 mσ2 fσ2 (by omega) (by omega)
          · intro q_12
            have b_15 : ¬ r3.toInt = 0 := fun h9 => q_12 (Int32.toInt_inj.mp h9)
            refine k_X2_readsPart_r4 hc0 lc0 mσ2  (by omega) (by omega) (by first | with_reducible assumption | with_reducible rfl | omega | assumption | rfl) (fun r6 σ5 mσ5 cσ5 plσ5 phσ5 => ?_)
            have fσ5 : FX (fun id => id = c0 + 1) (fun id k => (id = c0 ∧ k = 4) ∨ (id = c0 ∧ k = 11)) σ0 σ5 := FX_tr fσ2 cσ5 (fun x (h9 : x = c0 + 1) => (show x = c0 + 1 from h9)) (fun x k (h9 : (x = c0 ∧ k = 4) ∨ (x = c0 ∧ k = 11)) => (show (x = c0 + 1) ∨ ((x = c0 ∧ k = 4) ∨ (x = c0 ∧ k = 11)) from h9.elim (fun e9 => Or.inr (show (x = c0 ∧ k = 4) ∨ (x = c0 ∧ k = 11) from Or.inl (e9))) (fun h9 => Or.inr (show (x = c0 ∧ k = 4) ∨ (x = c0 ∧ k = 11) from Or.inr (h9)))))
            have k_16 : (gi σ5 c0 10).toInt = (gi σ2 c0 10).toInt := congrArg Int32.toInt (FX_i cσ5 (show ¬ (c0 = c0 + 1) from by first | omega | (have ugc0 := un gc0; omega)) (show ¬ ((c0 = c0 ∧ 10 = 4) ∨ (c0 = c0 ∧ 10 = 11)) from by first | omega | (have ugc0 := un gc0; omega)))
            have t_17 := XI_c1 mσ5 (id := c0) (k := 11) (lim_F0_11 hc0)
            have kr_18 : gr σ5 c0 9 = some 50 := (FX_r cσ5 (show ¬ (c0 = c0 + 1) from by first | omega | (have ugc0 := un gc0; omega)) (show ¬ ((c0 = c0 ∧ 9 = 4) ∨ (c0 = c0 ∧ 9 = 11)) from by first | omega | (have ugc0 := un gc0; omega))).trans kr_11
            refine ⟨?_, ?_⟩
            · intro q_19
              have b_20 : ¬ r6.toInt = 0 := fun h9 => q_19 (Int32.toInt_inj.mp h9)
              have z_21 : (-2 : Int32).toInt = -2 := rfl
              refine k_X2_writes hc0 lc0 mσ5  (by omega) (by omega) (fun σ8 mσ8 cσ8 => ?_)
              have fσ8 : FX (fun id => id = c0 + 1) (fun id k => (id = c0 ∧ k = 4) ∨ (id = c0 ∧ k = 11)) σ0 σ8 := FX_tr fσ5 cσ8 (fun x (h9 : x = c0 + 1) => (show x = c0 + 1 from h9)) (fun x k (h9 : (x = c0 ∧ k = 4)) => (show (x = c0 + 1) ∨ ((x = c0 ∧ k = 4) ∨ (x = c0 ∧ k = 11)) from Or.inr (show (x = c0 ∧ k = 4) ∨ (x = c0 ∧ k = 11) from Or.inl (h9))))
              have k_22 : (gi σ8 c0 10).toInt = (gi σ5 c0 10).toInt := congrArg Int32.toInt (FX_i cσ8 (show ¬ (c0 = c0 + 1) from by first | omega | (have ugc0 := un gc0; omega)) (show ¬ ((c0 = c0 ∧ 10 = 4)) from by first | omega | (have ugc0 := un gc0; omega)))
              have k_23 : (gi σ8 c0 11).toInt = (gi σ5 c0 11).toInt := congrArg Int32.toInt (FX_i cσ8 (show ¬ (c0 = c0 + 1) from by first | omega | (have ugc0 := un gc0; omega)) (show ¬ ((c0 = c0 ∧ 11 = 4)) from by first | omega | (have ugc0 := un gc0; omega)))
              have kr_24 : gr σ8 c0 9 = some 50 := (FX_r cσ8 (show ¬ (c0 = c0 + 1) from by first | omega | (have ugc0 := un gc0; omega)) (show ¬ ((c0 = c0 ∧ 9 = 4)) from by first | omega | (have ugc0 := un gc0; omega))).trans kr_18
              intro v9 ev9
              have t_25 : (x2 + (1 : Int32)).toInt = x2.toInt + 1 := i_add (x := x2) (y := (1 : Int32)) (by show (_ : Int) ≤ x2.toInt + 1; omega) (by show x2.toInt + 1 ≤ (_ : Int); omega)
              have t_26 : v9.toInt = (x2 + (1 : Int32)).toInt := congrArg Int32.toInt ev9
              exact ih12 x1 v9 σ8 mσ8 fσ8 (by omega) (by omega) (by omega) (by omega) (by omega)
            · intro q_19
              have b_27 : r6.toInt = 0 := congrArg Int32.toInt q_19
              have z_28 : (0 : Int32).toInt = 0 := rfl
              exact h9ret (0 : Int32) σ5 mσ5 fσ5 (by omega) (by omega)
  have U12 := T 200
  have f0 : FX (fun id => id = c0 + 1) (fun id k => (id = c0 ∧ k = 4) ∨ (id = c0 ∧ k = 11)) σ0 σ0 := FX_rf
  have t_29 := XI_c1 m0 (id := c0) (k := 10) (lim_F0_10 hc0)
  have t_30 := XI_c1 m0 (id := c0) (k := 11) (lim_F0_11 hc0)
  refine s_X2_readsBoth_r4_0 C hN hc0 lc0 ?_
  refine k_X2_readsPart_r4 hc0 lc0 m0  (by omega) (by omega) (by first | with_reducible assumption | with_reducible rfl | omega | assumption | rfl) (fun r2 σ1 mσ1 cσ1 plσ1 phσ1 => ?_)
  have fσ1 : FX (fun id => id = c0 + 1) (fun id k => (id = c0 ∧ k = 4) ∨ (id = c0 ∧ k = 11)) σ0 σ1 := FX_tr f0 cσ1 (fun x (h9 : x = c0 + 1) => (show x = c0 + 1 from h9)) (fun x k (h9 : (x = c0 ∧ k = 4) ∨ (x = c0 ∧ k = 11)) => (show (x = c0 + 1) ∨ ((x = c0 ∧ k = 4) ∨ (x = c0 ∧ k = 11)) from h9.elim (fun e9 => Or.inr (show (x = c0 ∧ k = 4) ∨ (x = c0 ∧ k = 11) from Or.inl (e9))) (fun h9 => Or.inr (show (x = c0 ∧ k = 4) ∨ (x = c0 ∧ k = 11) from Or.inr (h9)))))
  have k_31 : (gi σ1 c0 10).toInt = (gi σ0 c0 10).toInt := congrArg Int32.toInt (FX_i cσ1 (show ¬ (c0 = c0 + 1) from by first | omega | (have ugc0 := un gc0; omega)) (show ¬ ((c0 = c0 ∧ 10 = 4) ∨ (c0 = c0 ∧ 10 = 11)) from by first | omega | (have ugc0 := un gc0; omega)))
  have t_32 := XI_c1 mσ1 (id := c0) (k := 11) (lim_F0_11 hc0)
  have kr_33 : gr σ1 c0 9 = some 50 := (FX_r cσ1 (show ¬ (c0 = c0 + 1) from by first | omega | (have ugc0 := un gc0; omega)) (show ¬ ((c0 = c0 ∧ 9 = 4) ∨ (c0 = c0 ∧ 9 = 11)) from by first | omega | (have ugc0 := un gc0; omega))).trans pre0
  refine ⟨?_, ?_⟩
  · intro q_34
    have b_35 : ¬ r2.toInt = 0 := fun h9 => q_34 (Int32.toInt_inj.mp h9)
    have z_36 : (0 : Int32).toInt = 0 := rfl
    exact U12 a1 (0 : Int32) σ1 mσ1 fσ1 (by omega) (by omega) (by omega) (by omega) (by omega)
  · intro q_34
    have b_37 : r2.toInt = 0 := congrArg Int32.toInt q_34
    have z_38 : (0 : Int32).toInt = 0 := rfl
    exact h9ret (0 : Int32) σ1 mσ1 fσ1 (by omega) (by omega)
set_option maxRecDepth 100000 in
set_option maxHeartbeats 4000000 in
theorem k_X2_readsEither_r4 {l : Launch} {V : Vx} {c0 : Nat} {a1 : Int32} {σ0 : Sg} {Qk : Int32 → Sg → Prop} (hc0 : kd c0 = (12, 0)) (lc0 : c0 ∈ ids (V)) (m0 : XI V σ0) (l_a1 : 4 ≤ a1.toInt) (u_a1 : a1.toInt ≤ 4) (pre0 : gr σ0 c0 9 = some 50) (h9ret : ∀ (r : Int32) (σ' : Sg), XI V σ' → FX (fun id => id = c0 + 1) (fun id k => (id = c0 ∧ k = 4) ∨ (id = c0 ∧ k = 11)) σ0 σ' → (0 ≤ r.toInt) → (r.toInt ≤ 1) → Qk r σ') : K_X2_readsEither_r4 l V c0 a1 σ0 Qk := by
  refine e_X2_readsEither_r4 (fun M hl hV hN C => ?_)
  subst hl
  subst hV
  have gc0 : hid _ := kdF_ge hc0
  have T : ∀ n : Nat, (∀ (x1 : Int32) (x2 : Int32) (σ : Sg), XI (mV M) σ → FX (fun id => id = c0 + 1) (fun id k => (id = c0 ∧ k = 4) ∨ (id = c0 ∧ k = 11)) σ0 σ → (4 ≤ x1.toInt) → (x1.toInt ≤ 4) → (0 ≤ x2.toInt) → (x2.toInt ≤ 100) → (101 - x2.toInt).toNat < n → PS M 12 [(0, .ref c0), (1, .int x1), (2, .int x2)] [] σ (0, 0)) := by
    intro n
    induction n with
    | zero => exact fun _ _ _ _ _ _ _ _ _ h8 => absurd h8 (Nat.not_lt_zero _)
    | succ n ih =>
      have ih12 := ih
      · intro x1 x2 σ mσ fσ lx1 ux1 lx2 ux2 hmu
        have kr_c0_9 : gr σ c0 9 = some 50 := (FX_r fσ (show ¬ (c0 = c0 + 1) from by first | omega | (have ugc0 := un gc0; omega)) (show ¬ ((c0 = c0 ∧ 9 = 4) ∨ (c0 = c0 ∧ 9 = 11)) from by first | omega | (have ugc0 := un gc0; omega))).trans pre0
        have k_1 : (gi σ c0 10).toInt = (gi σ0 c0 10).toInt := congrArg Int32.toInt (FX_i fσ (show ¬ (c0 = c0 + 1) from by first | omega | (have ugc0 := un gc0; omega)) (show ¬ ((c0 = c0 ∧ 10 = 4) ∨ (c0 = c0 ∧ 10 = 11)) from by first | omega | (have ugc0 := un gc0; omega)))
        have t_2 := XI_c1 mσ (id := c0) (k := 10) (lim_F0_10 hc0)
        have t_3 := XI_c1 mσ (id := c0) (k := 11) (lim_F0_11 hc0)
        refine s_X2_readsEither_r4_12 C hN hc0 lc0 ?_
        refine ⟨?_, ?_⟩
        · intro q_4
          have b_5 : (100 : Int) ≤ x2.toInt := Int32.le_iff_toInt_le.mp q_4
          have z_6 : (1 : Int32).toInt = 1 := rfl
          exact h9ret (1 : Int32) σ mσ fσ (by omega) (by omega)
        · intro q_4
          have b_7 : ¬ (100 : Int) ≤ x2.toInt := fun h9 => q_4 (Int32.le_iff_toInt_le.mpr h9)
          have z_8 : (124 : Int32).toInt = 124 := rfl
          refine k_X2_takes hc0 lc0 mσ  (by omega) (by omega) (by first | with_reducible assumption | with_reducible rfl | omega | assumption | rfl) (fun r3 σ2 mσ2 cσ2 plσ2 phσ2 => ?_)
          have fσ2 : FX (fun id => id = c0 + 1) (fun id k => (id = c0 ∧ k = 4) ∨ (id = c0 ∧ k = 11)) σ0 σ2 := FX_tr fσ cσ2 (fun _ h9 => h9.elim) (fun x k (h9 : (x = c0 ∧ k = 11)) => (show (x = c0 + 1) ∨ ((x = c0 ∧ k = 4) ∨ (x = c0 ∧ k = 11)) from Or.inr (show (x = c0 ∧ k = 4) ∨ (x = c0 ∧ k = 11) from Or.inr (h9))))
          have k_9 : (gi σ2 c0 10).toInt = (gi σ c0 10).toInt := congrArg Int32.toInt (FX_i cσ2 id (show ¬ ((c0 = c0 ∧ 10 = 11)) from by first | omega | (have ugc0 := un gc0; omega)))
          have t_10 := XI_c1 mσ2 (id := c0) (k := 11) (lim_F0_11 hc0)
          have kr_11 : gr σ2 c0 9 = some 50 := (FX_r cσ2 id (show ¬ ((c0 = c0 ∧ 9 = 11)) from by first | omega | (have ugc0 := un gc0; omega))).trans kr_c0_9
          refine ⟨?_, ?_⟩
          · intro q_12
            have b_13 : r3.toInt = 0 := congrArg Int32.toInt q_12
            have z_14 : (1 : Int32).toInt = 1 := rfl
            exact h9ret (1 : Int32) σ2 mσ2 fσ2 (by omega) (by omega)
          · intro q_12
            have b_15 : ¬ r3.toInt = 0 := fun h9 => q_12 (Int32.toInt_inj.mp h9)
            refine k_X2_readsBoth_r4 hc0 lc0 mσ2  (by omega) (by omega) (by first | with_reducible assumption | with_reducible rfl | omega | assumption | rfl) (fun r6 σ5 mσ5 cσ5 plσ5 phσ5 => ?_)
            have fσ5 : FX (fun id => id = c0 + 1) (fun id k => (id = c0 ∧ k = 4) ∨ (id = c0 ∧ k = 11)) σ0 σ5 := FX_tr fσ2 cσ5 (fun x (h9 : x = c0 + 1) => (show x = c0 + 1 from h9)) (fun x k (h9 : (x = c0 ∧ k = 4) ∨ (x = c0 ∧ k = 11)) => (show (x = c0 + 1) ∨ ((x = c0 ∧ k = 4) ∨ (x = c0 ∧ k = 11)) from h9.elim (fun e9 => Or.inr (show (x = c0 ∧ k = 4) ∨ (x = c0 ∧ k = 11) from Or.inl (e9))) (fun h9 => Or.inr (show (x = c0 ∧ k = 4) ∨ (x = c0 ∧ k = 11) from Or.inr (h9)))))
            have k_16 : (gi σ5 c0 10).toInt = (gi σ2 c0 10).toInt := congrArg Int32.toInt (FX_i cσ5 (show ¬ (c0 = c0 + 1) from by first | omega | (have ugc0 := un gc0; omega)) (show ¬ ((c0 = c0 ∧ 10 = 4) ∨ (c0 = c0 ∧ 10 = 11)) from by first | omega | (have ugc0 := un gc0; omega)))
            have t_17 := XI_c1 mσ5 (id := c0) (k := 11) (lim_F0_11 hc0)
            have kr_18 : gr σ5 c0 9 = some 50 := (FX_r cσ5 (show ¬ (c0 = c0 + 1) from by first | omega | (have ugc0 := un gc0; omega)) (show ¬ ((c0 = c0 ∧ 9 = 4) ∨ (c0 = c0 ∧ 9 = 11)) from by first | omega | (have ugc0 := un gc0; omega))).trans kr_11
            refine ⟨?_, ?_⟩
            · intro q_19
              have b_20 : ¬ r6.toInt = 0 := fun h9 => q_19 (Int32.toInt_inj.mp h9)
              have z_21 : (-3 : Int32).toInt = -3 := rfl
              refine k_X2_writes hc0 lc0 mσ5  (by omega) (by omega) (fun σ8 mσ8 cσ8 => ?_)
              have fσ8 : FX (fun id => id = c0 + 1) (fun id k => (id = c0 ∧ k = 4) ∨ (id = c0 ∧ k = 11)) σ0 σ8 := FX_tr fσ5 cσ8 (fun x (h9 : x = c0 + 1) => (show x = c0 + 1 from h9)) (fun x k (h9 : (x = c0 ∧ k = 4)) => (show (x = c0 + 1) ∨ ((x = c0 ∧ k = 4) ∨ (x = c0 ∧ k = 11)) from Or.inr (show (x = c0 ∧ k = 4) ∨ (x = c0 ∧ k = 11) from Or.inl (h9))))
              have k_22 : (gi σ8 c0 10).toInt = (gi σ5 c0 10).toInt := congrArg Int32.toInt (FX_i cσ8 (show ¬ (c0 = c0 + 1) from by first | omega | (have ugc0 := un gc0; omega)) (show ¬ ((c0 = c0 ∧ 10 = 4)) from by first | omega | (have ugc0 := un gc0; omega)))
              have k_23 : (gi σ8 c0 11).toInt = (gi σ5 c0 11).toInt := congrArg Int32.toInt (FX_i cσ8 (show ¬ (c0 = c0 + 1) from by first | omega | (have ugc0 := un gc0; omega)) (show ¬ ((c0 = c0 ∧ 11 = 4)) from by first | omega | (have ugc0 := un gc0; omega)))
              have kr_24 : gr σ8 c0 9 = some 50 := (FX_r cσ8 (show ¬ (c0 = c0 + 1) from by first | omega | (have ugc0 := un gc0; omega)) (show ¬ ((c0 = c0 ∧ 9 = 4)) from by first | omega | (have ugc0 := un gc0; omega))).trans kr_18
              intro v9 ev9
              have t_25 : (x2 + (1 : Int32)).toInt = x2.toInt + 1 := i_add (x := x2) (y := (1 : Int32)) (by show (_ : Int) ≤ x2.toInt + 1; omega) (by show x2.toInt + 1 ≤ (_ : Int); omega)
              have t_26 : v9.toInt = (x2 + (1 : Int32)).toInt := congrArg Int32.toInt ev9
              exact ih12 x1 v9 σ8 mσ8 fσ8 (by omega) (by omega) (by omega) (by omega) (by omega)
            · intro q_19
              have b_27 : r6.toInt = 0 := congrArg Int32.toInt q_19
              have z_28 : (0 : Int32).toInt = 0 := rfl
              exact h9ret (0 : Int32) σ5 mσ5 fσ5 (by omega) (by omega)
  have U12 := T 200
  have f0 : FX (fun id => id = c0 + 1) (fun id k => (id = c0 ∧ k = 4) ∨ (id = c0 ∧ k = 11)) σ0 σ0 := FX_rf
  have t_29 := XI_c1 m0 (id := c0) (k := 10) (lim_F0_10 hc0)
  have t_30 := XI_c1 m0 (id := c0) (k := 11) (lim_F0_11 hc0)
  refine s_X2_readsEither_r4_0 C hN hc0 lc0 ?_
  refine k_X2_readsBoth_r4 hc0 lc0 m0  (by omega) (by omega) (by first | with_reducible assumption | with_reducible rfl | omega | assumption | rfl) (fun r2 σ1 mσ1 cσ1 plσ1 phσ1 => ?_)
  have fσ1 : FX (fun id => id = c0 + 1) (fun id k => (id = c0 ∧ k = 4) ∨ (id = c0 ∧ k = 11)) σ0 σ1 := FX_tr f0 cσ1 (fun x (h9 : x = c0 + 1) => (show x = c0 + 1 from h9)) (fun x k (h9 : (x = c0 ∧ k = 4) ∨ (x = c0 ∧ k = 11)) => (show (x = c0 + 1) ∨ ((x = c0 ∧ k = 4) ∨ (x = c0 ∧ k = 11)) from h9.elim (fun e9 => Or.inr (show (x = c0 ∧ k = 4) ∨ (x = c0 ∧ k = 11) from Or.inl (e9))) (fun h9 => Or.inr (show (x = c0 ∧ k = 4) ∨ (x = c0 ∧ k = 11) from Or.inr (h9)))))
  have k_31 : (gi σ1 c0 10).toInt = (gi σ0 c0 10).toInt := congrArg Int32.toInt (FX_i cσ1 (show ¬ (c0 = c0 + 1) from by first | omega | (have ugc0 := un gc0; omega)) (show ¬ ((c0 = c0 ∧ 10 = 4) ∨ (c0 = c0 ∧ 10 = 11)) from by first | omega | (have ugc0 := un gc0; omega)))
  have t_32 := XI_c1 mσ1 (id := c0) (k := 11) (lim_F0_11 hc0)
  have kr_33 : gr σ1 c0 9 = some 50 := (FX_r cσ1 (show ¬ (c0 = c0 + 1) from by first | omega | (have ugc0 := un gc0; omega)) (show ¬ ((c0 = c0 ∧ 9 = 4) ∨ (c0 = c0 ∧ 9 = 11)) from by first | omega | (have ugc0 := un gc0; omega))).trans pre0
  refine ⟨?_, ?_⟩
  · intro q_34
    have b_35 : ¬ r2.toInt = 0 := fun h9 => q_34 (Int32.toInt_inj.mp h9)
    have z_36 : (0 : Int32).toInt = 0 := rfl
    exact U12 a1 (0 : Int32) σ1 mσ1 fσ1 (by omega) (by omega) (by omega) (by omega) (by omega)
  · intro q_34
    have b_37 : r2.toInt = 0 := congrArg Int32.toInt q_34
    have z_38 : (0 : Int32).toInt = 0 := rfl
    exact h9ret (0 : Int32) σ1 mσ1 fσ1 (by omega) (by omega)
set_option maxRecDepth 100000 in
set_option maxHeartbeats 4000000 in
theorem k_X2_readsPart_r3 {l : Launch} {V : Vx} {c0 : Nat} {a1 : Int32} {σ0 : Sg} {Qk : Int32 → Sg → Prop} (hc0 : kd c0 = (12, 0)) (lc0 : c0 ∈ ids (V)) (m0 : XI V σ0) (l_a1 : 3 ≤ a1.toInt) (u_a1 : a1.toInt ≤ 3) (pre0 : gr σ0 c0 9 = some 50) (h9ret : ∀ (r : Int32) (σ' : Sg), XI V σ' → FX (fun id => id = c0 + 1) (fun id k => (id = c0 ∧ k = 4) ∨ (id = c0 ∧ k = 11)) σ0 σ' → (0 ≤ r.toInt) → (r.toInt ≤ 1) → Qk r σ') : K_X2_readsPart_r3 l V c0 a1 σ0 Qk := by
  refine e_X2_readsPart_r3 (fun M hl hV hN C => ?_)
  subst hl
  subst hV
  have gc0 : hid _ := kdF_ge hc0
  have T : ∀ n : Nat, (∀ (x1 : Int32) (σ : Sg), XI (mV M) σ → FX (fun id => id = c0 + 1) (fun id k => (id = c0 ∧ k = 4) ∨ (id = c0 ∧ k = 11)) σ0 σ → (3 ≤ x1.toInt) → (x1.toInt ≤ 3) → 1 < n → PS M 33 [(0, .ref c0), (1, .int x1)] [] σ (0, 0)) := by
    intro n
    induction n with
    | zero => exact fun _ _ _ _ _ _ h8 => absurd h8 (Nat.not_lt_zero _)
    | succ n ih =>
      have ih33 := ih
      · intro x1 σ mσ fσ lx1 ux1 hmu
        have kr_c0_9 : gr σ c0 9 = some 50 := (FX_r fσ (show ¬ (c0 = c0 + 1) from by first | omega | (have ugc0 := un gc0; omega)) (show ¬ ((c0 = c0 ∧ 9 = 4) ∨ (c0 = c0 ∧ 9 = 11)) from by first | omega | (have ugc0 := un gc0; omega))).trans pre0
        have k_1 : (gi σ c0 10).toInt = (gi σ0 c0 10).toInt := congrArg Int32.toInt (FX_i fσ (show ¬ (c0 = c0 + 1) from by first | omega | (have ugc0 := un gc0; omega)) (show ¬ ((c0 = c0 ∧ 10 = 4) ∨ (c0 = c0 ∧ 10 = 11)) from by first | omega | (have ugc0 := un gc0; omega)))
        have t_2 := XI_c1 mσ (id := c0) (k := 10) (lim_F0_10 hc0)
        have t_3 := XI_c1 mσ (id := c0) (k := 11) (lim_F0_11 hc0)
        refine s_X2_readsPart_r3_33 C hN hc0 lc0 ?_
        refine ⟨?_, ?_⟩
        · intro q_4
          have b_5 : (4 : Int) ≤ x1.toInt := Int32.le_iff_toInt_le.mp q_4
          refine k_X2_readsTest hc0 lc0 mσ  (by first | with_reducible assumption | with_reducible rfl | omega | assumption | rfl) (fun r3 σ2 mσ2 cσ2 plσ2 phσ2 => ?_)
          have fσ2 : FX (fun id => id = c0 + 1) (fun id k => (id = c0 ∧ k = 4) ∨ (id = c0 ∧ k = 11)) σ0 σ2 := FX_tr fσ cσ2 (fun x (h9 : x = c0 + 1) => (show x = c0 + 1 from h9)) (fun x k (h9 : (x = c0 ∧ k = 4) ∨ (x = c0 ∧ k = 11)) => (show (x = c0 + 1) ∨ ((x = c0 ∧ k = 4) ∨ (x = c0 ∧ k = 11)) from h9.elim (fun e9 => Or.inr (show (x = c0 ∧ k = 4) ∨ (x = c0 ∧ k = 11) from Or.inl (e9))) (fun h9 => Or.inr (show (x = c0 ∧ k = 4) ∨ (x = c0 ∧ k = 11) from Or.inr (h9)))))
          have k_6 : (gi σ2 c0 10).toInt = (gi σ c0 10).toInt := congrArg Int32.toInt (FX_i cσ2 (show ¬ (c0 = c0 + 1) from by first | omega | (have ugc0 := un gc0; omega)) (show ¬ ((c0 = c0 ∧ 10 = 4) ∨ (c0 = c0 ∧ 10 = 11)) from by first | omega | (have ugc0 := un gc0; omega)))
          have t_7 := XI_c1 mσ2 (id := c0) (k := 11) (lim_F0_11 hc0)
          have kr_8 : gr σ2 c0 9 = some 50 := (FX_r cσ2 (show ¬ (c0 = c0 + 1) from by first | omega | (have ugc0 := un gc0; omega)) (show ¬ ((c0 = c0 ∧ 9 = 4) ∨ (c0 = c0 ∧ 9 = 11)) from by first | omega | (have ugc0 := un gc0; omega))).trans kr_c0_9
          refine ⟨i_bool (by omega) (by omega), ?_⟩
          exact h9ret r3 σ2 mσ2 fσ2 (by omega) (by omega)
        · intro q_4
          have b_9 : ¬ (4 : Int) ≤ x1.toInt := fun h9 => q_4 (Int32.le_iff_toInt_le.mpr h9)
          have z_10 : (40 : Int32).toInt = 40 := rfl
          refine k_X2_takes hc0 lc0 mσ  (by omega) (by omega) (by first | with_reducible assumption | with_reducible rfl | omega | assumption | rfl) (fun r5 σ4 mσ4 cσ4 plσ4 phσ4 => ?_)
          have fσ4 : FX (fun id => id = c0 + 1) (fun id k => (id = c0 ∧ k = 4) ∨ (id = c0 ∧ k = 11)) σ0 σ4 := FX_tr fσ cσ4 (fun _ h9 => h9.elim) (fun x k (h9 : (x = c0 ∧ k = 11)) => (show (x = c0 + 1) ∨ ((x = c0 ∧ k = 4) ∨ (x = c0 ∧ k = 11)) from Or.inr (show (x = c0 ∧ k = 4) ∨ (x = c0 ∧ k = 11) from Or.inr (h9))))
          have k_11 : (gi σ4 c0 10).toInt = (gi σ c0 10).toInt := congrArg Int32.toInt (FX_i cσ4 id (show ¬ ((c0 = c0 ∧ 10 = 11)) from by first | omega | (have ugc0 := un gc0; omega)))
          have t_12 := XI_c1 mσ4 (id := c0) (k := 11) (lim_F0_11 hc0)
          have kr_13 : gr σ4 c0 9 = some 50 := (FX_r cσ4 id (show ¬ ((c0 = c0 ∧ 9 = 11)) from by first | omega | (have ugc0 := un gc0; omega))).trans kr_c0_9
          refine ⟨?_, ?_⟩
          · intro q_14
            have b_15 : r5.toInt = 0 := congrArg Int32.toInt q_14
            refine k_X2_readsTest hc0 lc0 mσ4  (by first | with_reducible assumption | with_reducible rfl | omega | assumption | rfl) (fun r8 σ7 mσ7 cσ7 plσ7 phσ7 => ?_)
            have fσ7 : FX (fun id => id = c0 + 1) (fun id k => (id = c0 ∧ k = 4) ∨ (id = c0 ∧ k = 11)) σ0 σ7 := FX_tr fσ4 cσ7 (fun x (h9 : x = c0 + 1) => (show x = c0 + 1 from h9)) (fun x k (h9 : (x = c0 ∧ k = 4) ∨ (x = c0 ∧ k = 11)) => (show (x = c0 + 1) ∨ ((x = c0 ∧ k = 4) ∨ (x = c0 ∧ k = 11)) from h9.elim (fun e9 => Or.inr (show (x = c0 ∧ k = 4) ∨ (x = c0 ∧ k = 11) from Or.inl (e9))) (fun h9 => Or.inr (show (x = c0 ∧ k = 4) ∨ (x = c0 ∧ k = 11) from Or.inr (h9)))))
            have k_16 : (gi σ7 c0 10).toInt = (gi σ4 c0 10).toInt := congrArg Int32.toInt (FX_i cσ7 (show ¬ (c0 = c0 + 1) from by first | omega | (have ugc0 := un gc0; omega)) (show ¬ ((c0 = c0 ∧ 10 = 4) ∨ (c0 = c0 ∧ 10 = 11)) from by first | omega | (have ugc0 := un gc0; omega)))
            have t_17 := XI_c1 mσ7 (id := c0) (k := 11) (lim_F0_11 hc0)
            have kr_18 : gr σ7 c0 9 = some 50 := (FX_r cσ7 (show ¬ (c0 = c0 + 1) from by first | omega | (have ugc0 := un gc0; omega)) (show ¬ ((c0 = c0 ∧ 9 = 4) ∨ (c0 = c0 ∧ 9 = 11)) from by first | omega | (have ugc0 := un gc0; omega))).trans kr_13
            refine ⟨i_bool (by omega) (by omega), ?_⟩
            exact h9ret r8 σ7 mσ7 fσ7 (by omega) (by omega)
          · intro q_14
            have b_19 : ¬ r5.toInt = 0 := fun h9 => q_14 (Int32.toInt_inj.mp h9)
            have t_20 : (x1 + (1 : Int32)).toInt = x1.toInt + 1 := i_add (x := x1) (y := (1 : Int32)) (by show (_ : Int) ≤ x1.toInt + 1; omega) (by show x1.toInt + 1 ≤ (_ : Int); omega)
            refine k_X2_readsEither_r4 hc0 lc0 mσ4  (by omega) (by omega) (by first | with_reducible assumption | with_reducible rfl | omega | assumption | rfl) (fun r10 σ9 mσ9 cσ9 plσ9 phσ9 => ?_)
            have fσ9 : FX (fun id => id = c0 + 1) (fun id k => (id = c0 ∧ k = 4) ∨ (id = c0 ∧ k = 11)) σ0 σ9 := FX_tr fσ4 cσ9 (fun x (h9 : x = c0 + 1) => (show x = c0 + 1 from h9)) (fun x k (h9 : (x = c0 ∧ k = 4) ∨ (x = c0 ∧ k = 11)) => (show (x = c0 + 1) ∨ ((x = c0 ∧ k = 4) ∨ (x = c0 ∧ k = 11)) from h9.elim (fun e9 => Or.inr (show (x = c0 ∧ k = 4) ∨ (x = c0 ∧ k = 11) from Or.inl (e9))) (fun h9 => Or.inr (show (x = c0 ∧ k = 4) ∨ (x = c0 ∧ k = 11) from Or.inr (h9)))))
            have k_21 : (gi σ9 c0 10).toInt = (gi σ4 c0 10).toInt := congrArg Int32.toInt (FX_i cσ9 (show ¬ (c0 = c0 + 1) from by first | omega | (have ugc0 := un gc0; omega)) (show ¬ ((c0 = c0 ∧ 10 = 4) ∨ (c0 = c0 ∧ 10 = 11)) from by first | omega | (have ugc0 := un gc0; omega)))
            have t_22 := XI_c1 mσ9 (id := c0) (k := 11) (lim_F0_11 hc0)
            have kr_23 : gr σ9 c0 9 = some 50 := (FX_r cσ9 (show ¬ (c0 = c0 + 1) from by first | omega | (have ugc0 := un gc0; omega)) (show ¬ ((c0 = c0 ∧ 9 = 4) ∨ (c0 = c0 ∧ 9 = 11)) from by first | omega | (have ugc0 := un gc0; omega))).trans kr_13
            refine ⟨?_, ?_⟩
            · intro q_24
              have b_25 : r10.toInt = 0 := congrArg Int32.toInt q_24
              have z_26 : (0 : Int32).toInt = 0 := rfl
              exact h9ret (0 : Int32) σ9 mσ9 fσ9 (by omega) (by omega)
            · intro q_24
              have b_27 : ¬ r10.toInt = 0 := fun h9 => q_24 (Int32.toInt_inj.mp h9)
              have z_28 : (41 : Int32).toInt = 41 := rfl
              refine k_X2_takes hc0 lc0 mσ9  (by omega) (by omega) (by first | with_reducible assumption | with_reducible rfl | omega | assumption | rfl) (fun r13 σ12 mσ12 cσ12 plσ12 phσ12 => ?_)
              have fσ12 : FX (fun id => id = c0 + 1) (fun id k => (id = c0 ∧ k = 4) ∨ (id = c0 ∧ k = 11)) σ0 σ12 := FX_tr fσ9 cσ12 (fun _ h9 => h9.elim) (fun x k (h9 : (x = c0 ∧ k = 11)) => (show (x = c0 + 1) ∨ ((x = c0 ∧ k = 4) ∨ (x = c0 ∧ k = 11)) from Or.inr (show (x = c0 ∧ k = 4) ∨ (x = c0 ∧ k = 11) from Or.inr (h9))))
              have k_29 : (gi σ12 c0 10).toInt = (gi σ9 c0 10).toInt := congrArg Int32.toInt (FX_i cσ12 id (show ¬ ((c0 = c0 ∧ 10 = 11)) from by first | omega | (have ugc0 := un gc0; omega)))
              have t_30 := XI_c1 mσ12 (id := c0) (k := 11) (lim_F0_11 hc0)
              have kr_31 : gr σ12 c0 9 = some 50 := (FX_r cσ12 id (show ¬ ((c0 = c0 ∧ 9 = 11)) from by first | omega | (have ugc0 := un gc0; omega))).trans kr_23
              refine ⟨?_, ?_⟩
              · intro q_32
                have b_33 : r13.toInt = 0 := congrArg Int32.toInt q_32
                have z_34 : (0 : Int32).toInt = 0 := rfl
                exact h9ret (0 : Int32) σ12 mσ12 fσ12 (by omega) (by omega)
              · intro q_32
                have b_35 : ¬ r13.toInt = 0 := fun h9 => q_32 (Int32.toInt_inj.mp h9)
                have z_36 : (1 : Int32).toInt = 1 := rfl
                exact h9ret (1 : Int32) σ12 mσ12 fσ12 (by omega) (by omega)
  have U33 := T 9
  have f0 : FX (fun id => id = c0 + 1) (fun id k => (id = c0 ∧ k = 4) ∨ (id = c0 ∧ k = 11)) σ0 σ0 := FX_rf
  have t_37 := XI_c1 m0 (id := c0) (k := 10) (lim_F0_10 hc0)
  have t_38 := XI_c1 m0 (id := c0) (k := 11) (lim_F0_11 hc0)
  refine s_X2_readsPart_r3_0 C hN hc0 lc0 ?_
  refine ⟨?_, ?_⟩
  · intro q_39
    have b_40 : (4 : Int) ≤ a1.toInt := Int32.le_iff_toInt_le.mp q_39
    exact U33 a1 σ0 m0 f0 (by omega) (by omega) (by omega)
  · intro q_39
    have b_41 : ¬ (4 : Int) ≤ a1.toInt := fun h9 => q_39 (Int32.le_iff_toInt_le.mpr h9)
    have z_42 : (33 : Int32).toInt = 33 := rfl
    refine k_X2_takes hc0 lc0 m0  (by omega) (by omega) (by first | with_reducible assumption | with_reducible rfl | omega | assumption | rfl) (fun r3 σ2 mσ2 cσ2 plσ2 phσ2 => ?_)
    have fσ2 : FX (fun id => id = c0 + 1) (fun id k => (id = c0 ∧ k = 4) ∨ (id = c0 ∧ k = 11)) σ0 σ2 := FX_tr f0 cσ2 (fun _ h9 => h9.elim) (fun x k (h9 : (x = c0 ∧ k = 11)) => (show (x = c0 + 1) ∨ ((x = c0 ∧ k = 4) ∨ (x = c0 ∧ k = 11)) from Or.inr (show (x = c0 ∧ k = 4) ∨ (x = c0 ∧ k = 11) from Or.inr (h9))))
    have k_43 : (gi σ2 c0 10).toInt = (gi σ0 c0 10).toInt := congrArg Int32.toInt (FX_i cσ2 id (show ¬ ((c0 = c0 ∧ 10 = 11)) from by first | omega | (have ugc0 := un gc0; omega)))
    have t_44 := XI_c1 mσ2 (id := c0) (k := 11) (lim_F0_11 hc0)
    have kr_45 : gr σ2 c0 9 = some 50 := (FX_r cσ2 id (show ¬ ((c0 = c0 ∧ 9 = 11)) from by first | omega | (have ugc0 := un gc0; omega))).trans pre0
    refine ⟨?_, ?_⟩
    · intro q_46
      have b_47 : r3.toInt = 0 := congrArg Int32.toInt q_46
      exact U33 a1 σ2 mσ2 fσ2 (by omega) (by omega) (by omega)
    · intro q_46
      have b_48 : ¬ r3.toInt = 0 := fun h9 => q_46 (Int32.toInt_inj.mp h9)
      have t_49 : (a1 + (1 : Int32)).toInt = a1.toInt + 1 := i_add (x := a1) (y := (1 : Int32)) (by show (_ : Int) ≤ a1.toInt + 1; omega) (by show a1.toInt + 1 ≤ (_ : Int); omega)
      refine k_X2_readsPart_r4 hc0 lc0 mσ2  (by omega) (by omega) (by first | with_reducible assumption | with_reducible rfl | omega | assumption | rfl) (fun r6 σ5 mσ5 cσ5 plσ5 phσ5 => ?_)
      have fσ5 : FX (fun id => id = c0 + 1) (fun id k => (id = c0 ∧ k = 4) ∨ (id = c0 ∧ k = 11)) σ0 σ5 := FX_tr fσ2 cσ5 (fun x (h9 : x = c0 + 1) => (show x = c0 + 1 from h9)) (fun x k (h9 : (x = c0 ∧ k = 4) ∨ (x = c0 ∧ k = 11)) => (show (x = c0 + 1) ∨ ((x = c0 ∧ k = 4) ∨ (x = c0 ∧ k = 11)) from h9.elim (fun e9 => Or.inr (show (x = c0 ∧ k = 4) ∨ (x = c0 ∧ k = 11) from Or.inl (e9))) (fun h9 => Or.inr (show (x = c0 ∧ k = 4) ∨ (x = c0 ∧ k = 11) from Or.inr (h9)))))
      have k_50 : (gi σ5 c0 10).toInt = (gi σ2 c0 10).toInt := congrArg Int32.toInt (FX_i cσ5 (show ¬ (c0 = c0 + 1) from by first | omega | (have ugc0 := un gc0; omega)) (show ¬ ((c0 = c0 ∧ 10 = 4) ∨ (c0 = c0 ∧ 10 = 11)) from by first | omega | (have ugc0 := un gc0; omega)))
      have t_51 := XI_c1 mσ5 (id := c0) (k := 11) (lim_F0_11 hc0)
      have kr_52 : gr σ5 c0 9 = some 50 := (FX_r cσ5 (show ¬ (c0 = c0 + 1) from by first | omega | (have ugc0 := un gc0; omega)) (show ¬ ((c0 = c0 ∧ 9 = 4) ∨ (c0 = c0 ∧ 9 = 11)) from by first | omega | (have ugc0 := un gc0; omega))).trans kr_45
      refine ⟨?_, ?_⟩
      · intro q_53
        have b_54 : ¬ r6.toInt = 0 := fun h9 => q_53 (Int32.toInt_inj.mp h9)
        have z_55 : (-1 : Int32).toInt = -1 := rfl
        refine k_X2_writes hc0 lc0 mσ5  (by omega) (by omega) (fun σ8 mσ8 cσ8 => ?_)
        have fσ8 : FX (fun id => id = c0 + 1) (fun id k => (id = c0 ∧ k = 4) ∨ (id = c0 ∧ k = 11)) σ0 σ8 := FX_tr fσ5 cσ8 (fun x (h9 : x = c0 + 1) => (show x = c0 + 1 from h9)) (fun x k (h9 : (x = c0 ∧ k = 4)) => (show (x = c0 + 1) ∨ ((x = c0 ∧ k = 4) ∨ (x = c0 ∧ k = 11)) from Or.inr (show (x = c0 ∧ k = 4) ∨ (x = c0 ∧ k = 11) from Or.inl (h9))))
        have k_56 : (gi σ8 c0 10).toInt = (gi σ5 c0 10).toInt := congrArg Int32.toInt (FX_i cσ8 (show ¬ (c0 = c0 + 1) from by first | omega | (have ugc0 := un gc0; omega)) (show ¬ ((c0 = c0 ∧ 10 = 4)) from by first | omega | (have ugc0 := un gc0; omega)))
        have k_57 : (gi σ8 c0 11).toInt = (gi σ5 c0 11).toInt := congrArg Int32.toInt (FX_i cσ8 (show ¬ (c0 = c0 + 1) from by first | omega | (have ugc0 := un gc0; omega)) (show ¬ ((c0 = c0 ∧ 11 = 4)) from by first | omega | (have ugc0 := un gc0; omega)))
        have kr_58 : gr σ8 c0 9 = some 50 := (FX_r cσ8 (show ¬ (c0 = c0 + 1) from by first | omega | (have ugc0 := un gc0; omega)) (show ¬ ((c0 = c0 ∧ 9 = 4)) from by first | omega | (have ugc0 := un gc0; omega))).trans kr_52
        have z_59 : (1 : Int32).toInt = 1 := rfl
        exact h9ret (1 : Int32) σ8 mσ8 fσ8 (by omega) (by omega)
      · intro q_53
        have b_60 : r6.toInt = 0 := congrArg Int32.toInt q_53
        have z_61 : (0 : Int32).toInt = 0 := rfl
        exact h9ret (0 : Int32) σ5 mσ5 fσ5 (by omega) (by omega)
set_option maxRecDepth 100000 in
set_option maxHeartbeats 4000000 in
theorem k_X2_readsBoth_r3 {l : Launch} {V : Vx} {c0 : Nat} {a1 : Int32} {σ0 : Sg} {Qk : Int32 → Sg → Prop} (hc0 : kd c0 = (12, 0)) (lc0 : c0 ∈ ids (V)) (m0 : XI V σ0) (l_a1 : 3 ≤ a1.toInt) (u_a1 : a1.toInt ≤ 3) (pre0 : gr σ0 c0 9 = some 50) (h9ret : ∀ (r : Int32) (σ' : Sg), XI V σ' → FX (fun id => id = c0 + 1) (fun id k => (id = c0 ∧ k = 4) ∨ (id = c0 ∧ k = 11)) σ0 σ' → (0 ≤ r.toInt) → (r.toInt ≤ 1) → Qk r σ') : K_X2_readsBoth_r3 l V c0 a1 σ0 Qk := by
  refine e_X2_readsBoth_r3 (fun M hl hV hN C => ?_)
  subst hl
  subst hV
  have gc0 : hid _ := kdF_ge hc0
  have T : ∀ n : Nat, (∀ (x1 : Int32) (x2 : Int32) (σ : Sg), XI (mV M) σ → FX (fun id => id = c0 + 1) (fun id k => (id = c0 ∧ k = 4) ∨ (id = c0 ∧ k = 11)) σ0 σ → (3 ≤ x1.toInt) → (x1.toInt ≤ 3) → (0 ≤ x2.toInt) → (x2.toInt ≤ 100) → (101 - x2.toInt).toNat < n → PS M 12 [(0, .ref c0), (1, .int x1), (2, .int x2)] [] σ (0, 0)) := by
    intro n
    induction n with
    | zero => exact fun _ _ _ _ _ _ _ _ _ h8 => absurd h8 (Nat.not_lt_zero _)
    | succ n ih =>
      have ih12 := ih
      · intro x1 x2 σ mσ fσ lx1 ux1 lx2 ux2 hmu
        have kr_c0_9 : gr σ c0 9 = some 50 := (FX_r fσ (show ¬ (c0 = c0 + 1) from by first | omega | (have ugc0 := un gc0; omega)) (show ¬ ((c0 = c0 ∧ 9 = 4) ∨ (c0 = c0 ∧ 9 = 11)) from by first | omega | (have ugc0 := un gc0; omega))).trans pre0
        have k_1 : (gi σ c0 10).toInt = (gi σ0 c0 10).toInt := congrArg Int32.toInt (FX_i fσ (show ¬ (c0 = c0 + 1) from by first | omega | (have ugc0 := un gc0; omega)) (show ¬ ((c0 = c0 ∧ 10 = 4) ∨ (c0 = c0 ∧ 10 = 11)) from by first | omega | (have ugc0 := un gc0; omega)))
        have t_2 := XI_c1 mσ (id := c0) (k := 10) (lim_F0_10 hc0)
        have t_3 := XI_c1 mσ (id := c0) (k := 11) (lim_F0_11 hc0)
        refine s_X2_readsBoth_r3_12 C hN hc0 lc0 ?_
        refine ⟨?_, ?_⟩
        · intro q_4
          have b_5 : (100 : Int) ≤ x2.toInt := Int32.le_iff_toInt_le.mp q_4
          have z_6 : (1 : Int32).toInt = 1 := rfl
          exact h9ret (1 : Int32) σ mσ fσ (by omega) (by omega)
        · intro q_4
          have b_7 : ¬ (100 : Int) ≤ x2.toInt := fun h9 => q_4 (Int32.le_iff_toInt_le.mpr h9)
          have z_8 : (38 : Int32).toInt = 38 := rfl
          refine k_X2_takes hc0 lc0 mσ  (by omega) (by omega) (by first | with_reducible assumption | with_reducible rfl | omega | assumption | rfl) (fun r3 σ2 mσ2 cσ2 plσ2 phσ2 => ?_)
          have fσ2 : FX (fun id => id = c0 + 1) (fun id k => (id = c0 ∧ k = 4) ∨ (id = c0 ∧ k = 11)) σ0 σ2 := FX_tr fσ cσ2 (fun _ h9 => h9.elim) (fun x k (h9 : (x = c0 ∧ k = 11)) => (show (x = c0 + 1) ∨ ((x = c0 ∧ k = 4) ∨ (x = c0 ∧ k = 11)) from Or.inr (show (x = c0 ∧ k = 4) ∨ (x = c0 ∧ k = 11) from Or.inr (h9))))
          have k_9 : (gi σ2 c0 10).toInt = (gi σ c0 10).toInt := congrArg Int32.toInt (FX_i cσ2 id (show ¬ ((c0 = c0 ∧ 10 = 11)) from by first | omega | (have ugc0 := un gc0; omega)))
          have t_10 := XI_c1 mσ2 (id := c0) (k := 11) (lim_F0_11 hc0)
          have kr_11 : gr σ2 c0 9 = some 50 := (FX_r cσ2 id (show ¬ ((c0 = c0 ∧ 9 = 11)) from by first | omega | (have ugc0 := un gc0; omega))).trans kr_c0_9
          refine ⟨?_, ?_⟩
          · intro q_12
            have b_13 : r3.toInt = 0 := congrArg Int32.toInt q_12
            have z_14 : (1 : Int32).toInt = 1 := rfl
            exact h9ret (1 : Int32) σ2 mσ2 fσ2 (by omega) (by omega)
          · intro q_12
            have b_15 : ¬ r3.toInt = 0 := fun h9 => q_12 (Int32.toInt_inj.mp h9)
            refine k_X2_readsPart_r3 hc0 lc0 mσ2  (by omega) (by omega) (by first | with_reducible assumption | with_reducible rfl | omega | assumption | rfl) (fun r6 σ5 mσ5 cσ5 plσ5 phσ5 => ?_)
            have fσ5 : FX (fun id => id = c0 + 1) (fun id k => (id = c0 ∧ k = 4) ∨ (id = c0 ∧ k = 11)) σ0 σ5 := FX_tr fσ2 cσ5 (fun x (h9 : x = c0 + 1) => (show x = c0 + 1 from h9)) (fun x k (h9 : (x = c0 ∧ k = 4) ∨ (x = c0 ∧ k = 11)) => (show (x = c0 + 1) ∨ ((x = c0 ∧ k = 4) ∨ (x = c0 ∧ k = 11)) from h9.elim (fun e9 => Or.inr (show (x = c0 ∧ k = 4) ∨ (x = c0 ∧ k = 11) from Or.inl (e9))) (fun h9 => Or.inr (show (x = c0 ∧ k = 4) ∨ (x = c0 ∧ k = 11) from Or.inr (h9)))))
            have k_16 : (gi σ5 c0 10).toInt = (gi σ2 c0 10).toInt := congrArg Int32.toInt (FX_i cσ5 (show ¬ (c0 = c0 + 1) from by first | omega | (have ugc0 := un gc0; omega)) (show ¬ ((c0 = c0 ∧ 10 = 4) ∨ (c0 = c0 ∧ 10 = 11)) from by first | omega | (have ugc0 := un gc0; omega)))
            have t_17 := XI_c1 mσ5 (id := c0) (k := 11) (lim_F0_11 hc0)
            have kr_18 : gr σ5 c0 9 = some 50 := (FX_r cσ5 (show ¬ (c0 = c0 + 1) from by first | omega | (have ugc0 := un gc0; omega)) (show ¬ ((c0 = c0 ∧ 9 = 4) ∨ (c0 = c0 ∧ 9 = 11)) from by first | omega | (have ugc0 := un gc0; omega))).trans kr_11
            refine ⟨?_, ?_⟩
            · intro q_19
              have b_20 : ¬ r6.toInt = 0 := fun h9 => q_19 (Int32.toInt_inj.mp h9)
              have z_21 : (-2 : Int32).toInt = -2 := rfl
              refine k_X2_writes hc0 lc0 mσ5  (by omega) (by omega) (fun σ8 mσ8 cσ8 => ?_)
              have fσ8 : FX (fun id => id = c0 + 1) (fun id k => (id = c0 ∧ k = 4) ∨ (id = c0 ∧ k = 11)) σ0 σ8 := FX_tr fσ5 cσ8 (fun x (h9 : x = c0 + 1) => (show x = c0 + 1 from h9)) (fun x k (h9 : (x = c0 ∧ k = 4)) => (show (x = c0 + 1) ∨ ((x = c0 ∧ k = 4) ∨ (x = c0 ∧ k = 11)) from Or.inr (show (x = c0 ∧ k = 4) ∨ (x = c0 ∧ k = 11) from Or.inl (h9))))
              have k_22 : (gi σ8 c0 10).toInt = (gi σ5 c0 10).toInt := congrArg Int32.toInt (FX_i cσ8 (show ¬ (c0 = c0 + 1) from by first | omega | (have ugc0 := un gc0; omega)) (show ¬ ((c0 = c0 ∧ 10 = 4)) from by first | omega | (have ugc0 := un gc0; omega)))
              have k_23 : (gi σ8 c0 11).toInt = (gi σ5 c0 11).toInt := congrArg Int32.toInt (FX_i cσ8 (show ¬ (c0 = c0 + 1) from by first | omega | (have ugc0 := un gc0; omega)) (show ¬ ((c0 = c0 ∧ 11 = 4)) from by first | omega | (have ugc0 := un gc0; omega)))
              have kr_24 : gr σ8 c0 9 = some 50 := (FX_r cσ8 (show ¬ (c0 = c0 + 1) from by first | omega | (have ugc0 := un gc0; omega)) (show ¬ ((c0 = c0 ∧ 9 = 4)) from by first | omega | (have ugc0 := un gc0; omega))).trans kr_18
              intro v9 ev9
              have t_25 : (x2 + (1 : Int32)).toInt = x2.toInt + 1 := i_add (x := x2) (y := (1 : Int32)) (by show (_ : Int) ≤ x2.toInt + 1; omega) (by show x2.toInt + 1 ≤ (_ : Int); omega)
              have t_26 : v9.toInt = (x2 + (1 : Int32)).toInt := congrArg Int32.toInt ev9
              exact ih12 x1 v9 σ8 mσ8 fσ8 (by omega) (by omega) (by omega) (by omega) (by omega)
            · intro q_19
              have b_27 : r6.toInt = 0 := congrArg Int32.toInt q_19
              have z_28 : (0 : Int32).toInt = 0 := rfl
              exact h9ret (0 : Int32) σ5 mσ5 fσ5 (by omega) (by omega)
  have U12 := T 200
  have f0 : FX (fun id => id = c0 + 1) (fun id k => (id = c0 ∧ k = 4) ∨ (id = c0 ∧ k = 11)) σ0 σ0 := FX_rf
  have t_29 := XI_c1 m0 (id := c0) (k := 10) (lim_F0_10 hc0)
  have t_30 := XI_c1 m0 (id := c0) (k := 11) (lim_F0_11 hc0)
  refine s_X2_readsBoth_r3_0 C hN hc0 lc0 ?_
  refine k_X2_readsPart_r3 hc0 lc0 m0  (by omega) (by omega) (by first | with_reducible assumption | with_reducible rfl | omega | assumption | rfl) (fun r2 σ1 mσ1 cσ1 plσ1 phσ1 => ?_)
  have fσ1 : FX (fun id => id = c0 + 1) (fun id k => (id = c0 ∧ k = 4) ∨ (id = c0 ∧ k = 11)) σ0 σ1 := FX_tr f0 cσ1 (fun x (h9 : x = c0 + 1) => (show x = c0 + 1 from h9)) (fun x k (h9 : (x = c0 ∧ k = 4) ∨ (x = c0 ∧ k = 11)) => (show (x = c0 + 1) ∨ ((x = c0 ∧ k = 4) ∨ (x = c0 ∧ k = 11)) from h9.elim (fun e9 => Or.inr (show (x = c0 ∧ k = 4) ∨ (x = c0 ∧ k = 11) from Or.inl (e9))) (fun h9 => Or.inr (show (x = c0 ∧ k = 4) ∨ (x = c0 ∧ k = 11) from Or.inr (h9)))))
  have k_31 : (gi σ1 c0 10).toInt = (gi σ0 c0 10).toInt := congrArg Int32.toInt (FX_i cσ1 (show ¬ (c0 = c0 + 1) from by first | omega | (have ugc0 := un gc0; omega)) (show ¬ ((c0 = c0 ∧ 10 = 4) ∨ (c0 = c0 ∧ 10 = 11)) from by first | omega | (have ugc0 := un gc0; omega)))
  have t_32 := XI_c1 mσ1 (id := c0) (k := 11) (lim_F0_11 hc0)
  have kr_33 : gr σ1 c0 9 = some 50 := (FX_r cσ1 (show ¬ (c0 = c0 + 1) from by first | omega | (have ugc0 := un gc0; omega)) (show ¬ ((c0 = c0 ∧ 9 = 4) ∨ (c0 = c0 ∧ 9 = 11)) from by first | omega | (have ugc0 := un gc0; omega))).trans pre0
  refine ⟨?_, ?_⟩
  · intro q_34
    have b_35 : ¬ r2.toInt = 0 := fun h9 => q_34 (Int32.toInt_inj.mp h9)
    have z_36 : (0 : Int32).toInt = 0 := rfl
    exact U12 a1 (0 : Int32) σ1 mσ1 fσ1 (by omega) (by omega) (by omega) (by omega) (by omega)
  · intro q_34
    have b_37 : r2.toInt = 0 := congrArg Int32.toInt q_34
    have z_38 : (0 : Int32).toInt = 0 := rfl
    exact h9ret (0 : Int32) σ1 mσ1 fσ1 (by omega) (by omega)
set_option maxRecDepth 100000 in
set_option maxHeartbeats 4000000 in
theorem k_X2_readsEither_r3 {l : Launch} {V : Vx} {c0 : Nat} {a1 : Int32} {σ0 : Sg} {Qk : Int32 → Sg → Prop} (hc0 : kd c0 = (12, 0)) (lc0 : c0 ∈ ids (V)) (m0 : XI V σ0) (l_a1 : 3 ≤ a1.toInt) (u_a1 : a1.toInt ≤ 3) (pre0 : gr σ0 c0 9 = some 50) (h9ret : ∀ (r : Int32) (σ' : Sg), XI V σ' → FX (fun id => id = c0 + 1) (fun id k => (id = c0 ∧ k = 4) ∨ (id = c0 ∧ k = 11)) σ0 σ' → (0 ≤ r.toInt) → (r.toInt ≤ 1) → Qk r σ') : K_X2_readsEither_r3 l V c0 a1 σ0 Qk := by
  refine e_X2_readsEither_r3 (fun M hl hV hN C => ?_)
  subst hl
  subst hV
  have gc0 : hid _ := kdF_ge hc0
  have T : ∀ n : Nat, (∀ (x1 : Int32) (x2 : Int32) (σ : Sg), XI (mV M) σ → FX (fun id => id = c0 + 1) (fun id k => (id = c0 ∧ k = 4) ∨ (id = c0 ∧ k = 11)) σ0 σ → (3 ≤ x1.toInt) → (x1.toInt ≤ 3) → (0 ≤ x2.toInt) → (x2.toInt ≤ 100) → (101 - x2.toInt).toNat < n → PS M 12 [(0, .ref c0), (1, .int x1), (2, .int x2)] [] σ (0, 0)) := by
    intro n
    induction n with
    | zero => exact fun _ _ _ _ _ _ _ _ _ h8 => absurd h8 (Nat.not_lt_zero _)
    | succ n ih =>
      have ih12 := ih
      · intro x1 x2 σ mσ fσ lx1 ux1 lx2 ux2 hmu
        have kr_c0_9 : gr σ c0 9 = some 50 := (FX_r fσ (show ¬ (c0 = c0 + 1) from by first | omega | (have ugc0 := un gc0; omega)) (show ¬ ((c0 = c0 ∧ 9 = 4) ∨ (c0 = c0 ∧ 9 = 11)) from by first | omega | (have ugc0 := un gc0; omega))).trans pre0
        have k_1 : (gi σ c0 10).toInt = (gi σ0 c0 10).toInt := congrArg Int32.toInt (FX_i fσ (show ¬ (c0 = c0 + 1) from by first | omega | (have ugc0 := un gc0; omega)) (show ¬ ((c0 = c0 ∧ 10 = 4) ∨ (c0 = c0 ∧ 10 = 11)) from by first | omega | (have ugc0 := un gc0; omega)))
        have t_2 := XI_c1 mσ (id := c0) (k := 10) (lim_F0_10 hc0)
        have t_3 := XI_c1 mσ (id := c0) (k := 11) (lim_F0_11 hc0)
        refine s_X2_readsEither_r3_12 C hN hc0 lc0 ?_
        refine ⟨?_, ?_⟩
        · intro q_4
          have b_5 : (100 : Int) ≤ x2.toInt := Int32.le_iff_toInt_le.mp q_4
          have z_6 : (1 : Int32).toInt = 1 := rfl
          exact h9ret (1 : Int32) σ mσ fσ (by omega) (by omega)
        · intro q_4
          have b_7 : ¬ (100 : Int) ≤ x2.toInt := fun h9 => q_4 (Int32.le_iff_toInt_le.mpr h9)
          have z_8 : (124 : Int32).toInt = 124 := rfl
          refine k_X2_takes hc0 lc0 mσ  (by omega) (by omega) (by first | with_reducible assumption | with_reducible rfl | omega | assumption | rfl) (fun r3 σ2 mσ2 cσ2 plσ2 phσ2 => ?_)
          have fσ2 : FX (fun id => id = c0 + 1) (fun id k => (id = c0 ∧ k = 4) ∨ (id = c0 ∧ k = 11)) σ0 σ2 := FX_tr fσ cσ2 (fun _ h9 => h9.elim) (fun x k (h9 : (x = c0 ∧ k = 11)) => (show (x = c0 + 1) ∨ ((x = c0 ∧ k = 4) ∨ (x = c0 ∧ k = 11)) from Or.inr (show (x = c0 ∧ k = 4) ∨ (x = c0 ∧ k = 11) from Or.inr (h9))))
          have k_9 : (gi σ2 c0 10).toInt = (gi σ c0 10).toInt := congrArg Int32.toInt (FX_i cσ2 id (show ¬ ((c0 = c0 ∧ 10 = 11)) from by first | omega | (have ugc0 := un gc0; omega)))
          have t_10 := XI_c1 mσ2 (id := c0) (k := 11) (lim_F0_11 hc0)
          have kr_11 : gr σ2 c0 9 = some 50 := (FX_r cσ2 id (show ¬ ((c0 = c0 ∧ 9 = 11)) from by first | omega | (have ugc0 := un gc0; omega))).trans kr_c0_9
          refine ⟨?_, ?_⟩
          · intro q_12
            have b_13 : r3.toInt = 0 := congrArg Int32.toInt q_12
            have z_14 : (1 : Int32).toInt = 1 := rfl
            exact h9ret (1 : Int32) σ2 mσ2 fσ2 (by omega) (by omega)
          · intro q_12
            have b_15 : ¬ r3.toInt = 0 := fun h9 => q_12 (Int32.toInt_inj.mp h9)
            refine k_X2_readsBoth_r3 hc0 lc0 mσ2  (by omega) (by omega) (by first | with_reducible assumption | with_reducible rfl | omega | assumption | rfl) (fun r6 σ5 mσ5 cσ5 plσ5 phσ5 => ?_)
            have fσ5 : FX (fun id => id = c0 + 1) (fun id k => (id = c0 ∧ k = 4) ∨ (id = c0 ∧ k = 11)) σ0 σ5 := FX_tr fσ2 cσ5 (fun x (h9 : x = c0 + 1) => (show x = c0 + 1 from h9)) (fun x k (h9 : (x = c0 ∧ k = 4) ∨ (x = c0 ∧ k = 11)) => (show (x = c0 + 1) ∨ ((x = c0 ∧ k = 4) ∨ (x = c0 ∧ k = 11)) from h9.elim (fun e9 => Or.inr (show (x = c0 ∧ k = 4) ∨ (x = c0 ∧ k = 11) from Or.inl (e9))) (fun h9 => Or.inr (show (x = c0 ∧ k = 4) ∨ (x = c0 ∧ k = 11) from Or.inr (h9)))))
            have k_16 : (gi σ5 c0 10).toInt = (gi σ2 c0 10).toInt := congrArg Int32.toInt (FX_i cσ5 (show ¬ (c0 = c0 + 1) from by first | omega | (have ugc0 := un gc0; omega)) (show ¬ ((c0 = c0 ∧ 10 = 4) ∨ (c0 = c0 ∧ 10 = 11)) from by first | omega | (have ugc0 := un gc0; omega)))
            have t_17 := XI_c1 mσ5 (id := c0) (k := 11) (lim_F0_11 hc0)
            have kr_18 : gr σ5 c0 9 = some 50 := (FX_r cσ5 (show ¬ (c0 = c0 + 1) from by first | omega | (have ugc0 := un gc0; omega)) (show ¬ ((c0 = c0 ∧ 9 = 4) ∨ (c0 = c0 ∧ 9 = 11)) from by first | omega | (have ugc0 := un gc0; omega))).trans kr_11
            refine ⟨?_, ?_⟩
            · intro q_19
              have b_20 : ¬ r6.toInt = 0 := fun h9 => q_19 (Int32.toInt_inj.mp h9)
              have z_21 : (-3 : Int32).toInt = -3 := rfl
              refine k_X2_writes hc0 lc0 mσ5  (by omega) (by omega) (fun σ8 mσ8 cσ8 => ?_)
              have fσ8 : FX (fun id => id = c0 + 1) (fun id k => (id = c0 ∧ k = 4) ∨ (id = c0 ∧ k = 11)) σ0 σ8 := FX_tr fσ5 cσ8 (fun x (h9 : x = c0 + 1) => (show x = c0 + 1 from h9)) (fun x k (h9 : (x = c0 ∧ k = 4)) => (show (x = c0 + 1) ∨ ((x = c0 ∧ k = 4) ∨ (x = c0 ∧ k = 11)) from Or.inr (show (x = c0 ∧ k = 4) ∨ (x = c0 ∧ k = 11) from Or.inl (h9))))
              have k_22 : (gi σ8 c0 10).toInt = (gi σ5 c0 10).toInt := congrArg Int32.toInt (FX_i cσ8 (show ¬ (c0 = c0 + 1) from by first | omega | (have ugc0 := un gc0; omega)) (show ¬ ((c0 = c0 ∧ 10 = 4)) from by first | omega | (have ugc0 := un gc0; omega)))
              have k_23 : (gi σ8 c0 11).toInt = (gi σ5 c0 11).toInt := congrArg Int32.toInt (FX_i cσ8 (show ¬ (c0 = c0 + 1) from by first | omega | (have ugc0 := un gc0; omega)) (show ¬ ((c0 = c0 ∧ 11 = 4)) from by first | omega | (have ugc0 := un gc0; omega)))
              have kr_24 : gr σ8 c0 9 = some 50 := (FX_r cσ8 (show ¬ (c0 = c0 + 1) from by first | omega | (have ugc0 := un gc0; omega)) (show ¬ ((c0 = c0 ∧ 9 = 4)) from by first | omega | (have ugc0 := un gc0; omega))).trans kr_18
              intro v9 ev9
              have t_25 : (x2 + (1 : Int32)).toInt = x2.toInt + 1 := i_add (x := x2) (y := (1 : Int32)) (by show (_ : Int) ≤ x2.toInt + 1; omega) (by show x2.toInt + 1 ≤ (_ : Int); omega)
              have t_26 : v9.toInt = (x2 + (1 : Int32)).toInt := congrArg Int32.toInt ev9
              exact ih12 x1 v9 σ8 mσ8 fσ8 (by omega) (by omega) (by omega) (by omega) (by omega)
            · intro q_19
              have b_27 : r6.toInt = 0 := congrArg Int32.toInt q_19
              have z_28 : (0 : Int32).toInt = 0 := rfl
              exact h9ret (0 : Int32) σ5 mσ5 fσ5 (by omega) (by omega)
  have U12 := T 200
  have f0 : FX (fun id => id = c0 + 1) (fun id k => (id = c0 ∧ k = 4) ∨ (id = c0 ∧ k = 11)) σ0 σ0 := FX_rf
  have t_29 := XI_c1 m0 (id := c0) (k := 10) (lim_F0_10 hc0)
  have t_30 := XI_c1 m0 (id := c0) (k := 11) (lim_F0_11 hc0)
  refine s_X2_readsEither_r3_0 C hN hc0 lc0 ?_
  refine k_X2_readsBoth_r3 hc0 lc0 m0  (by omega) (by omega) (by first | with_reducible assumption | with_reducible rfl | omega | assumption | rfl) (fun r2 σ1 mσ1 cσ1 plσ1 phσ1 => ?_)
  have fσ1 : FX (fun id => id = c0 + 1) (fun id k => (id = c0 ∧ k = 4) ∨ (id = c0 ∧ k = 11)) σ0 σ1 := FX_tr f0 cσ1 (fun x (h9 : x = c0 + 1) => (show x = c0 + 1 from h9)) (fun x k (h9 : (x = c0 ∧ k = 4) ∨ (x = c0 ∧ k = 11)) => (show (x = c0 + 1) ∨ ((x = c0 ∧ k = 4) ∨ (x = c0 ∧ k = 11)) from h9.elim (fun e9 => Or.inr (show (x = c0 ∧ k = 4) ∨ (x = c0 ∧ k = 11) from Or.inl (e9))) (fun h9 => Or.inr (show (x = c0 ∧ k = 4) ∨ (x = c0 ∧ k = 11) from Or.inr (h9)))))
  have k_31 : (gi σ1 c0 10).toInt = (gi σ0 c0 10).toInt := congrArg Int32.toInt (FX_i cσ1 (show ¬ (c0 = c0 + 1) from by first | omega | (have ugc0 := un gc0; omega)) (show ¬ ((c0 = c0 ∧ 10 = 4) ∨ (c0 = c0 ∧ 10 = 11)) from by first | omega | (have ugc0 := un gc0; omega)))
  have t_32 := XI_c1 mσ1 (id := c0) (k := 11) (lim_F0_11 hc0)
  have kr_33 : gr σ1 c0 9 = some 50 := (FX_r cσ1 (show ¬ (c0 = c0 + 1) from by first | omega | (have ugc0 := un gc0; omega)) (show ¬ ((c0 = c0 ∧ 9 = 4) ∨ (c0 = c0 ∧ 9 = 11)) from by first | omega | (have ugc0 := un gc0; omega))).trans pre0
  refine ⟨?_, ?_⟩
  · intro q_34
    have b_35 : ¬ r2.toInt = 0 := fun h9 => q_34 (Int32.toInt_inj.mp h9)
    have z_36 : (0 : Int32).toInt = 0 := rfl
    exact U12 a1 (0 : Int32) σ1 mσ1 fσ1 (by omega) (by omega) (by omega) (by omega) (by omega)
  · intro q_34
    have b_37 : r2.toInt = 0 := congrArg Int32.toInt q_34
    have z_38 : (0 : Int32).toInt = 0 := rfl
    exact h9ret (0 : Int32) σ1 mσ1 fσ1 (by omega) (by omega)
set_option maxRecDepth 100000 in
set_option maxHeartbeats 4000000 in
theorem k_X2_readsPart_r2 {l : Launch} {V : Vx} {c0 : Nat} {a1 : Int32} {σ0 : Sg} {Qk : Int32 → Sg → Prop} (hc0 : kd c0 = (12, 0)) (lc0 : c0 ∈ ids (V)) (m0 : XI V σ0) (l_a1 : 2 ≤ a1.toInt) (u_a1 : a1.toInt ≤ 2) (pre0 : gr σ0 c0 9 = some 50) (h9ret : ∀ (r : Int32) (σ' : Sg), XI V σ' → FX (fun id => id = c0 + 1) (fun id k => (id = c0 ∧ k = 4) ∨ (id = c0 ∧ k = 11)) σ0 σ' → (0 ≤ r.toInt) → (r.toInt ≤ 1) → Qk r σ') : K_X2_readsPart_r2 l V c0 a1 σ0 Qk := by
  refine e_X2_readsPart_r2 (fun M hl hV hN C => ?_)
  subst hl
  subst hV
  have gc0 : hid _ := kdF_ge hc0
  have T : ∀ n : Nat, (∀ (x1 : Int32) (σ : Sg), XI (mV M) σ → FX (fun id => id = c0 + 1) (fun id k => (id = c0 ∧ k = 4) ∨ (id = c0 ∧ k = 11)) σ0 σ → (2 ≤ x1.toInt) → (x1.toInt ≤ 2) → 1 < n → PS M 33 [(0, .ref c0), (1, .int x1)] [] σ (0, 0)) := by
    intro n
    induction n with
    | zero => exact fun _ _ _ _ _ _ h8 => absurd h8 (Nat.not_lt_zero _)
    | succ n ih =>
      have ih33 := ih
      · intro x1 σ mσ fσ lx1 ux1 hmu
        have kr_c0_9 : gr σ c0 9 = some 50 := (FX_r fσ (show ¬ (c0 = c0 + 1) from by first | omega | (have ugc0 := un gc0; omega)) (show ¬ ((c0 = c0 ∧ 9 = 4) ∨ (c0 = c0 ∧ 9 = 11)) from by first | omega | (have ugc0 := un gc0; omega))).trans pre0
        have k_1 : (gi σ c0 10).toInt = (gi σ0 c0 10).toInt := congrArg Int32.toInt (FX_i fσ (show ¬ (c0 = c0 + 1) from by first | omega | (have ugc0 := un gc0; omega)) (show ¬ ((c0 = c0 ∧ 10 = 4) ∨ (c0 = c0 ∧ 10 = 11)) from by first | omega | (have ugc0 := un gc0; omega)))
        have t_2 := XI_c1 mσ (id := c0) (k := 10) (lim_F0_10 hc0)
        have t_3 := XI_c1 mσ (id := c0) (k := 11) (lim_F0_11 hc0)
        refine s_X2_readsPart_r2_33 C hN hc0 lc0 ?_
        refine ⟨?_, ?_⟩
        · intro q_4
          have b_5 : (4 : Int) ≤ x1.toInt := Int32.le_iff_toInt_le.mp q_4
          refine k_X2_readsTest hc0 lc0 mσ  (by first | with_reducible assumption | with_reducible rfl | omega | assumption | rfl) (fun r3 σ2 mσ2 cσ2 plσ2 phσ2 => ?_)
          have fσ2 : FX (fun id => id = c0 + 1) (fun id k => (id = c0 ∧ k = 4) ∨ (id = c0 ∧ k = 11)) σ0 σ2 := FX_tr fσ cσ2 (fun x (h9 : x = c0 + 1) => (show x = c0 + 1 from h9)) (fun x k (h9 : (x = c0 ∧ k = 4) ∨ (x = c0 ∧ k = 11)) => (show (x = c0 + 1) ∨ ((x = c0 ∧ k = 4) ∨ (x = c0 ∧ k = 11)) from h9.elim (fun e9 => Or.inr (show (x = c0 ∧ k = 4) ∨ (x = c0 ∧ k = 11) from Or.inl (e9))) (fun h9 => Or.inr (show (x = c0 ∧ k = 4) ∨ (x = c0 ∧ k = 11) from Or.inr (h9)))))
          have k_6 : (gi σ2 c0 10).toInt = (gi σ c0 10).toInt := congrArg Int32.toInt (FX_i cσ2 (show ¬ (c0 = c0 + 1) from by first | omega | (have ugc0 := un gc0; omega)) (show ¬ ((c0 = c0 ∧ 10 = 4) ∨ (c0 = c0 ∧ 10 = 11)) from by first | omega | (have ugc0 := un gc0; omega)))
          have t_7 := XI_c1 mσ2 (id := c0) (k := 11) (lim_F0_11 hc0)
          have kr_8 : gr σ2 c0 9 = some 50 := (FX_r cσ2 (show ¬ (c0 = c0 + 1) from by first | omega | (have ugc0 := un gc0; omega)) (show ¬ ((c0 = c0 ∧ 9 = 4) ∨ (c0 = c0 ∧ 9 = 11)) from by first | omega | (have ugc0 := un gc0; omega))).trans kr_c0_9
          refine ⟨i_bool (by omega) (by omega), ?_⟩
          exact h9ret r3 σ2 mσ2 fσ2 (by omega) (by omega)
        · intro q_4
          have b_9 : ¬ (4 : Int) ≤ x1.toInt := fun h9 => q_4 (Int32.le_iff_toInt_le.mpr h9)
          have z_10 : (40 : Int32).toInt = 40 := rfl
          refine k_X2_takes hc0 lc0 mσ  (by omega) (by omega) (by first | with_reducible assumption | with_reducible rfl | omega | assumption | rfl) (fun r5 σ4 mσ4 cσ4 plσ4 phσ4 => ?_)
          have fσ4 : FX (fun id => id = c0 + 1) (fun id k => (id = c0 ∧ k = 4) ∨ (id = c0 ∧ k = 11)) σ0 σ4 := FX_tr fσ cσ4 (fun _ h9 => h9.elim) (fun x k (h9 : (x = c0 ∧ k = 11)) => (show (x = c0 + 1) ∨ ((x = c0 ∧ k = 4) ∨ (x = c0 ∧ k = 11)) from Or.inr (show (x = c0 ∧ k = 4) ∨ (x = c0 ∧ k = 11) from Or.inr (h9))))
          have k_11 : (gi σ4 c0 10).toInt = (gi σ c0 10).toInt := congrArg Int32.toInt (FX_i cσ4 id (show ¬ ((c0 = c0 ∧ 10 = 11)) from by first | omega | (have ugc0 := un gc0; omega)))
          have t_12 := XI_c1 mσ4 (id := c0) (k := 11) (lim_F0_11 hc0)
          have kr_13 : gr σ4 c0 9 = some 50 := (FX_r cσ4 id (show ¬ ((c0 = c0 ∧ 9 = 11)) from by first | omega | (have ugc0 := un gc0; omega))).trans kr_c0_9
          refine ⟨?_, ?_⟩
          · intro q_14
            have b_15 : r5.toInt = 0 := congrArg Int32.toInt q_14
            refine k_X2_readsTest hc0 lc0 mσ4  (by first | with_reducible assumption | with_reducible rfl | omega | assumption | rfl) (fun r8 σ7 mσ7 cσ7 plσ7 phσ7 => ?_)
            have fσ7 : FX (fun id => id = c0 + 1) (fun id k => (id = c0 ∧ k = 4) ∨ (id = c0 ∧ k = 11)) σ0 σ7 := FX_tr fσ4 cσ7 (fun x (h9 : x = c0 + 1) => (show x = c0 + 1 from h9)) (fun x k (h9 : (x = c0 ∧ k = 4) ∨ (x = c0 ∧ k = 11)) => (show (x = c0 + 1) ∨ ((x = c0 ∧ k = 4) ∨ (x = c0 ∧ k = 11)) from h9.elim (fun e9 => Or.inr (show (x = c0 ∧ k = 4) ∨ (x = c0 ∧ k = 11) from Or.inl (e9))) (fun h9 => Or.inr (show (x = c0 ∧ k = 4) ∨ (x = c0 ∧ k = 11) from Or.inr (h9)))))
            have k_16 : (gi σ7 c0 10).toInt = (gi σ4 c0 10).toInt := congrArg Int32.toInt (FX_i cσ7 (show ¬ (c0 = c0 + 1) from by first | omega | (have ugc0 := un gc0; omega)) (show ¬ ((c0 = c0 ∧ 10 = 4) ∨ (c0 = c0 ∧ 10 = 11)) from by first | omega | (have ugc0 := un gc0; omega)))
            have t_17 := XI_c1 mσ7 (id := c0) (k := 11) (lim_F0_11 hc0)
            have kr_18 : gr σ7 c0 9 = some 50 := (FX_r cσ7 (show ¬ (c0 = c0 + 1) from by first | omega | (have ugc0 := un gc0; omega)) (show ¬ ((c0 = c0 ∧ 9 = 4) ∨ (c0 = c0 ∧ 9 = 11)) from by first | omega | (have ugc0 := un gc0; omega))).trans kr_13
            refine ⟨i_bool (by omega) (by omega), ?_⟩
            exact h9ret r8 σ7 mσ7 fσ7 (by omega) (by omega)
          · intro q_14
            have b_19 : ¬ r5.toInt = 0 := fun h9 => q_14 (Int32.toInt_inj.mp h9)
            have t_20 : (x1 + (1 : Int32)).toInt = x1.toInt + 1 := i_add (x := x1) (y := (1 : Int32)) (by show (_ : Int) ≤ x1.toInt + 1; omega) (by show x1.toInt + 1 ≤ (_ : Int); omega)
            refine k_X2_readsEither_r3 hc0 lc0 mσ4  (by omega) (by omega) (by first | with_reducible assumption | with_reducible rfl | omega | assumption | rfl) (fun r10 σ9 mσ9 cσ9 plσ9 phσ9 => ?_)
            have fσ9 : FX (fun id => id = c0 + 1) (fun id k => (id = c0 ∧ k = 4) ∨ (id = c0 ∧ k = 11)) σ0 σ9 := FX_tr fσ4 cσ9 (fun x (h9 : x = c0 + 1) => (show x = c0 + 1 from h9)) (fun x k (h9 : (x = c0 ∧ k = 4) ∨ (x = c0 ∧ k = 11)) => (show (x = c0 + 1) ∨ ((x = c0 ∧ k = 4) ∨ (x = c0 ∧ k = 11)) from h9.elim (fun e9 => Or.inr (show (x = c0 ∧ k = 4) ∨ (x = c0 ∧ k = 11) from Or.inl (e9))) (fun h9 => Or.inr (show (x = c0 ∧ k = 4) ∨ (x = c0 ∧ k = 11) from Or.inr (h9)))))
            have k_21 : (gi σ9 c0 10).toInt = (gi σ4 c0 10).toInt := congrArg Int32.toInt (FX_i cσ9 (show ¬ (c0 = c0 + 1) from by first | omega | (have ugc0 := un gc0; omega)) (show ¬ ((c0 = c0 ∧ 10 = 4) ∨ (c0 = c0 ∧ 10 = 11)) from by first | omega | (have ugc0 := un gc0; omega)))
            have t_22 := XI_c1 mσ9 (id := c0) (k := 11) (lim_F0_11 hc0)
            have kr_23 : gr σ9 c0 9 = some 50 := (FX_r cσ9 (show ¬ (c0 = c0 + 1) from by first | omega | (have ugc0 := un gc0; omega)) (show ¬ ((c0 = c0 ∧ 9 = 4) ∨ (c0 = c0 ∧ 9 = 11)) from by first | omega | (have ugc0 := un gc0; omega))).trans kr_13
            refine ⟨?_, ?_⟩
            · intro q_24
              have b_25 : r10.toInt = 0 := congrArg Int32.toInt q_24
              have z_26 : (0 : Int32).toInt = 0 := rfl
              exact h9ret (0 : Int32) σ9 mσ9 fσ9 (by omega) (by omega)
            · intro q_24
              have b_27 : ¬ r10.toInt = 0 := fun h9 => q_24 (Int32.toInt_inj.mp h9)
              have z_28 : (41 : Int32).toInt = 41 := rfl
              refine k_X2_takes hc0 lc0 mσ9  (by omega) (by omega) (by first | with_reducible assumption | with_reducible rfl | omega | assumption | rfl) (fun r13 σ12 mσ12 cσ12 plσ12 phσ12 => ?_)
              have fσ12 : FX (fun id => id = c0 + 1) (fun id k => (id = c0 ∧ k = 4) ∨ (id = c0 ∧ k = 11)) σ0 σ12 := FX_tr fσ9 cσ12 (fun _ h9 => h9.elim) (fun x k (h9 : (x = c0 ∧ k = 11)) => (show (x = c0 + 1) ∨ ((x = c0 ∧ k = 4) ∨ (x = c0 ∧ k = 11)) from Or.inr (show (x = c0 ∧ k = 4) ∨ (x = c0 ∧ k = 11) from Or.inr (h9))))
              have k_29 : (gi σ12 c0 10).toInt = (gi σ9 c0 10).toInt := congrArg Int32.toInt (FX_i cσ12 id (show ¬ ((c0 = c0 ∧ 10 = 11)) from by first | omega | (have ugc0 := un gc0; omega)))
              have t_30 := XI_c1 mσ12 (id := c0) (k := 11) (lim_F0_11 hc0)
              have kr_31 : gr σ12 c0 9 = some 50 := (FX_r cσ12 id (show ¬ ((c0 = c0 ∧ 9 = 11)) from by first | omega | (have ugc0 := un gc0; omega))).trans kr_23
              refine ⟨?_, ?_⟩
              · intro q_32
                have b_33 : r13.toInt = 0 := congrArg Int32.toInt q_32
                have z_34 : (0 : Int32).toInt = 0 := rfl
                exact h9ret (0 : Int32) σ12 mσ12 fσ12 (by omega) (by omega)
              · intro q_32
                have b_35 : ¬ r13.toInt = 0 := fun h9 => q_32 (Int32.toInt_inj.mp h9)
                have z_36 : (1 : Int32).toInt = 1 := rfl
                exact h9ret (1 : Int32) σ12 mσ12 fσ12 (by omega) (by omega)
  have U33 := T 9
  have f0 : FX (fun id => id = c0 + 1) (fun id k => (id = c0 ∧ k = 4) ∨ (id = c0 ∧ k = 11)) σ0 σ0 := FX_rf
  have t_37 := XI_c1 m0 (id := c0) (k := 10) (lim_F0_10 hc0)
  have t_38 := XI_c1 m0 (id := c0) (k := 11) (lim_F0_11 hc0)
  refine s_X2_readsPart_r2_0 C hN hc0 lc0 ?_
  refine ⟨?_, ?_⟩
  · intro q_39
    have b_40 : (4 : Int) ≤ a1.toInt := Int32.le_iff_toInt_le.mp q_39
    exact U33 a1 σ0 m0 f0 (by omega) (by omega) (by omega)
  · intro q_39
    have b_41 : ¬ (4 : Int) ≤ a1.toInt := fun h9 => q_39 (Int32.le_iff_toInt_le.mpr h9)
    have z_42 : (33 : Int32).toInt = 33 := rfl
    refine k_X2_takes hc0 lc0 m0  (by omega) (by omega) (by first | with_reducible assumption | with_reducible rfl | omega | assumption | rfl) (fun r3 σ2 mσ2 cσ2 plσ2 phσ2 => ?_)
    have fσ2 : FX (fun id => id = c0 + 1) (fun id k => (id = c0 ∧ k = 4) ∨ (id = c0 ∧ k = 11)) σ0 σ2 := FX_tr f0 cσ2 (fun _ h9 => h9.elim) (fun x k (h9 : (x = c0 ∧ k = 11)) => (show (x = c0 + 1) ∨ ((x = c0 ∧ k = 4) ∨ (x = c0 ∧ k = 11)) from Or.inr (show (x = c0 ∧ k = 4) ∨ (x = c0 ∧ k = 11) from Or.inr (h9))))
    have k_43 : (gi σ2 c0 10).toInt = (gi σ0 c0 10).toInt := congrArg Int32.toInt (FX_i cσ2 id (show ¬ ((c0 = c0 ∧ 10 = 11)) from by first | omega | (have ugc0 := un gc0; omega)))
    have t_44 := XI_c1 mσ2 (id := c0) (k := 11) (lim_F0_11 hc0)
    have kr_45 : gr σ2 c0 9 = some 50 := (FX_r cσ2 id (show ¬ ((c0 = c0 ∧ 9 = 11)) from by first | omega | (have ugc0 := un gc0; omega))).trans pre0
    refine ⟨?_, ?_⟩
    · intro q_46
      have b_47 : r3.toInt = 0 := congrArg Int32.toInt q_46
      exact U33 a1 σ2 mσ2 fσ2 (by omega) (by omega) (by omega)
    · intro q_46
      have b_48 : ¬ r3.toInt = 0 := fun h9 => q_46 (Int32.toInt_inj.mp h9)
      have t_49 : (a1 + (1 : Int32)).toInt = a1.toInt + 1 := i_add (x := a1) (y := (1 : Int32)) (by show (_ : Int) ≤ a1.toInt + 1; omega) (by show a1.toInt + 1 ≤ (_ : Int); omega)
      refine k_X2_readsPart_r3 hc0 lc0 mσ2  (by omega) (by omega) (by first | with_reducible assumption | with_reducible rfl | omega | assumption | rfl) (fun r6 σ5 mσ5 cσ5 plσ5 phσ5 => ?_)
      have fσ5 : FX (fun id => id = c0 + 1) (fun id k => (id = c0 ∧ k = 4) ∨ (id = c0 ∧ k = 11)) σ0 σ5 := FX_tr fσ2 cσ5 (fun x (h9 : x = c0 + 1) => (show x = c0 + 1 from h9)) (fun x k (h9 : (x = c0 ∧ k = 4) ∨ (x = c0 ∧ k = 11)) => (show (x = c0 + 1) ∨ ((x = c0 ∧ k = 4) ∨ (x = c0 ∧ k = 11)) from h9.elim (fun e9 => Or.inr (show (x = c0 ∧ k = 4) ∨ (x = c0 ∧ k = 11) from Or.inl (e9))) (fun h9 => Or.inr (show (x = c0 ∧ k = 4) ∨ (x = c0 ∧ k = 11) from Or.inr (h9)))))
      have k_50 : (gi σ5 c0 10).toInt = (gi σ2 c0 10).toInt := congrArg Int32.toInt (FX_i cσ5 (show ¬ (c0 = c0 + 1) from by first | omega | (have ugc0 := un gc0; omega)) (show ¬ ((c0 = c0 ∧ 10 = 4) ∨ (c0 = c0 ∧ 10 = 11)) from by first | omega | (have ugc0 := un gc0; omega)))
      have t_51 := XI_c1 mσ5 (id := c0) (k := 11) (lim_F0_11 hc0)
      have kr_52 : gr σ5 c0 9 = some 50 := (FX_r cσ5 (show ¬ (c0 = c0 + 1) from by first | omega | (have ugc0 := un gc0; omega)) (show ¬ ((c0 = c0 ∧ 9 = 4) ∨ (c0 = c0 ∧ 9 = 11)) from by first | omega | (have ugc0 := un gc0; omega))).trans kr_45
      refine ⟨?_, ?_⟩
      · intro q_53
        have b_54 : ¬ r6.toInt = 0 := fun h9 => q_53 (Int32.toInt_inj.mp h9)
        have z_55 : (-1 : Int32).toInt = -1 := rfl
        refine k_X2_writes hc0 lc0 mσ5  (by omega) (by omega) (fun σ8 mσ8 cσ8 => ?_)
        have fσ8 : FX (fun id => id = c0 + 1) (fun id k => (id = c0 ∧ k = 4) ∨ (id = c0 ∧ k = 11)) σ0 σ8 := FX_tr fσ5 cσ8 (fun x (h9 : x = c0 + 1) => (show x = c0 + 1 from h9)) (fun x k (h9 : (x = c0 ∧ k = 4)) => (show (x = c0 + 1) ∨ ((x = c0 ∧ k = 4) ∨ (x = c0 ∧ k = 11)) from Or.inr (show (x = c0 ∧ k = 4) ∨ (x = c0 ∧ k = 11) from Or.inl (h9))))
        have k_56 : (gi σ8 c0 10).toInt = (gi σ5 c0 10).toInt := congrArg Int32.toInt (FX_i cσ8 (show ¬ (c0 = c0 + 1) from by first | omega | (have ugc0 := un gc0; omega)) (show ¬ ((c0 = c0 ∧ 10 = 4)) from by first | omega | (have ugc0 := un gc0; omega)))
        have k_57 : (gi σ8 c0 11).toInt = (gi σ5 c0 11).toInt := congrArg Int32.toInt (FX_i cσ8 (show ¬ (c0 = c0 + 1) from by first | omega | (have ugc0 := un gc0; omega)) (show ¬ ((c0 = c0 ∧ 11 = 4)) from by first | omega | (have ugc0 := un gc0; omega)))
        have kr_58 : gr σ8 c0 9 = some 50 := (FX_r cσ8 (show ¬ (c0 = c0 + 1) from by first | omega | (have ugc0 := un gc0; omega)) (show ¬ ((c0 = c0 ∧ 9 = 4)) from by first | omega | (have ugc0 := un gc0; omega))).trans kr_52
        have z_59 : (1 : Int32).toInt = 1 := rfl
        exact h9ret (1 : Int32) σ8 mσ8 fσ8 (by omega) (by omega)
      · intro q_53
        have b_60 : r6.toInt = 0 := congrArg Int32.toInt q_53
        have z_61 : (0 : Int32).toInt = 0 := rfl
        exact h9ret (0 : Int32) σ5 mσ5 fσ5 (by omega) (by omega)
set_option maxRecDepth 100000 in
set_option maxHeartbeats 4000000 in
theorem k_X2_readsBoth_r2 {l : Launch} {V : Vx} {c0 : Nat} {a1 : Int32} {σ0 : Sg} {Qk : Int32 → Sg → Prop} (hc0 : kd c0 = (12, 0)) (lc0 : c0 ∈ ids (V)) (m0 : XI V σ0) (l_a1 : 2 ≤ a1.toInt) (u_a1 : a1.toInt ≤ 2) (pre0 : gr σ0 c0 9 = some 50) (h9ret : ∀ (r : Int32) (σ' : Sg), XI V σ' → FX (fun id => id = c0 + 1) (fun id k => (id = c0 ∧ k = 4) ∨ (id = c0 ∧ k = 11)) σ0 σ' → (0 ≤ r.toInt) → (r.toInt ≤ 1) → Qk r σ') : K_X2_readsBoth_r2 l V c0 a1 σ0 Qk := by
  refine e_X2_readsBoth_r2 (fun M hl hV hN C => ?_)
  subst hl
  subst hV
  have gc0 : hid _ := kdF_ge hc0
  have T : ∀ n : Nat, (∀ (x1 : Int32) (x2 : Int32) (σ : Sg), XI (mV M) σ → FX (fun id => id = c0 + 1) (fun id k => (id = c0 ∧ k = 4) ∨ (id = c0 ∧ k = 11)) σ0 σ → (2 ≤ x1.toInt) → (x1.toInt ≤ 2) → (0 ≤ x2.toInt) → (x2.toInt ≤ 100) → (101 - x2.toInt).toNat < n → PS M 12 [(0, .ref c0), (1, .int x1), (2, .int x2)] [] σ (0, 0)) := by
    intro n
    induction n with
    | zero => exact fun _ _ _ _ _ _ _ _ _ h8 => absurd h8 (Nat.not_lt_zero _)
    | succ n ih =>
      have ih12 := ih
      · intro x1 x2 σ mσ fσ lx1 ux1 lx2 ux2 hmu
        have kr_c0_9 : gr σ c0 9 = some 50 := (FX_r fσ (show ¬ (c0 = c0 + 1) from by first | omega | (have ugc0 := un gc0; omega)) (show ¬ ((c0 = c0 ∧ 9 = 4) ∨ (c0 = c0 ∧ 9 = 11)) from by first | omega | (have ugc0 := un gc0; omega))).trans pre0
        have k_1 : (gi σ c0 10).toInt = (gi σ0 c0 10).toInt := congrArg Int32.toInt (FX_i fσ (show ¬ (c0 = c0 + 1) from by first | omega | (have ugc0 := un gc0; omega)) (show ¬ ((c0 = c0 ∧ 10 = 4) ∨ (c0 = c0 ∧ 10 = 11)) from by first | omega | (have ugc0 := un gc0; omega)))
        have t_2 := XI_c1 mσ (id := c0) (k := 10) (lim_F0_10 hc0)
        have t_3 := XI_c1 mσ (id := c0) (k := 11) (lim_F0_11 hc0)
        refine s_X2_readsBoth_r2_12 C hN hc0 lc0 ?_
        refine ⟨?_, ?_⟩
        · intro q_4
          have b_5 : (100 : Int) ≤ x2.toInt := Int32.le_iff_toInt_le.mp q_4
          have z_6 : (1 : Int32).toInt = 1 := rfl
          exact h9ret (1 : Int32) σ mσ fσ (by omega) (by omega)
        · intro q_4
          have b_7 : ¬ (100 : Int) ≤ x2.toInt := fun h9 => q_4 (Int32.le_iff_toInt_le.mpr h9)
          have z_8 : (38 : Int32).toInt = 38 := rfl
          refine k_X2_takes hc0 lc0 mσ  (by omega) (by omega) (by first | with_reducible assumption | with_reducible rfl | omega | assumption | rfl) (fun r3 σ2 mσ2 cσ2 plσ2 phσ2 => ?_)
          have fσ2 : FX (fun id => id = c0 + 1) (fun id k => (id = c0 ∧ k = 4) ∨ (id = c0 ∧ k = 11)) σ0 σ2 := FX_tr fσ cσ2 (fun _ h9 => h9.elim) (fun x k (h9 : (x = c0 ∧ k = 11)) => (show (x = c0 + 1) ∨ ((x = c0 ∧ k = 4) ∨ (x = c0 ∧ k = 11)) from Or.inr (show (x = c0 ∧ k = 4) ∨ (x = c0 ∧ k = 11) from Or.inr (h9))))
          have k_9 : (gi σ2 c0 10).toInt = (gi σ c0 10).toInt := congrArg Int32.toInt (FX_i cσ2 id (show ¬ ((c0 = c0 ∧ 10 = 11)) from by first | omega | (have ugc0 := un gc0; omega)))
          have t_10 := XI_c1 mσ2 (id := c0) (k := 11) (lim_F0_11 hc0)
          have kr_11 : gr σ2 c0 9 = some 50 := (FX_r cσ2 id (show ¬ ((c0 = c0 ∧ 9 = 11)) from by first | omega | (have ugc0 := un gc0; omega))).trans kr_c0_9
          refine ⟨?_, ?_⟩
          · intro q_12
            have b_13 : r3.toInt = 0 := congrArg Int32.toInt q_12
            have z_14 : (1 : Int32).toInt = 1 := rfl
            exact h9ret (1 : Int32) σ2 mσ2 fσ2 (by omega) (by omega)
          · intro q_12
            have b_15 : ¬ r3.toInt = 0 := fun h9 => q_12 (Int32.toInt_inj.mp h9)
            refine k_X2_readsPart_r2 hc0 lc0 mσ2  (by omega) (by omega) (by first | with_reducible assumption | with_reducible rfl | omega | assumption | rfl) (fun r6 σ5 mσ5 cσ5 plσ5 phσ5 => ?_)
            have fσ5 : FX (fun id => id = c0 + 1) (fun id k => (id = c0 ∧ k = 4) ∨ (id = c0 ∧ k = 11)) σ0 σ5 := FX_tr fσ2 cσ5 (fun x (h9 : x = c0 + 1) => (show x = c0 + 1 from h9)) (fun x k (h9 : (x = c0 ∧ k = 4) ∨ (x = c0 ∧ k = 11)) => (show (x = c0 + 1) ∨ ((x = c0 ∧ k = 4) ∨ (x = c0 ∧ k = 11)) from h9.elim (fun e9 => Or.inr (show (x = c0 ∧ k = 4) ∨ (x = c0 ∧ k = 11) from Or.inl (e9))) (fun h9 => Or.inr (show (x = c0 ∧ k = 4) ∨ (x = c0 ∧ k = 11) from Or.inr (h9)))))
            have k_16 : (gi σ5 c0 10).toInt = (gi σ2 c0 10).toInt := congrArg Int32.toInt (FX_i cσ5 (show ¬ (c0 = c0 + 1) from by first | omega | (have ugc0 := un gc0; omega)) (show ¬ ((c0 = c0 ∧ 10 = 4) ∨ (c0 = c0 ∧ 10 = 11)) from by first | omega | (have ugc0 := un gc0; omega)))
            have t_17 := XI_c1 mσ5 (id := c0) (k := 11) (lim_F0_11 hc0)
            have kr_18 : gr σ5 c0 9 = some 50 := (FX_r cσ5 (show ¬ (c0 = c0 + 1) from by first | omega | (have ugc0 := un gc0; omega)) (show ¬ ((c0 = c0 ∧ 9 = 4) ∨ (c0 = c0 ∧ 9 = 11)) from by first | omega | (have ugc0 := un gc0; omega))).trans kr_11
            refine ⟨?_, ?_⟩
            · intro q_19
              have b_20 : ¬ r6.toInt = 0 := fun h9 => q_19 (Int32.toInt_inj.mp h9)
              have z_21 : (-2 : Int32).toInt = -2 := rfl
              refine k_X2_writes hc0 lc0 mσ5  (by omega) (by omega) (fun σ8 mσ8 cσ8 => ?_)
              have fσ8 : FX (fun id => id = c0 + 1) (fun id k => (id = c0 ∧ k = 4) ∨ (id = c0 ∧ k = 11)) σ0 σ8 := FX_tr fσ5 cσ8 (fun x (h9 : x = c0 + 1) => (show x = c0 + 1 from h9)) (fun x k (h9 : (x = c0 ∧ k = 4)) => (show (x = c0 + 1) ∨ ((x = c0 ∧ k = 4) ∨ (x = c0 ∧ k = 11)) from Or.inr (show (x = c0 ∧ k = 4) ∨ (x = c0 ∧ k = 11) from Or.inl (h9))))
              have k_22 : (gi σ8 c0 10).toInt = (gi σ5 c0 10).toInt := congrArg Int32.toInt (FX_i cσ8 (show ¬ (c0 = c0 + 1) from by first | omega | (have ugc0 := un gc0; omega)) (show ¬ ((c0 = c0 ∧ 10 = 4)) from by first | omega | (have ugc0 := un gc0; omega)))
              have k_23 : (gi σ8 c0 11).toInt = (gi σ5 c0 11).toInt := congrArg Int32.toInt (FX_i cσ8 (show ¬ (c0 = c0 + 1) from by first | omega | (have ugc0 := un gc0; omega)) (show ¬ ((c0 = c0 ∧ 11 = 4)) from by first | omega | (have ugc0 := un gc0; omega)))
              have kr_24 : gr σ8 c0 9 = some 50 := (FX_r cσ8 (show ¬ (c0 = c0 + 1) from by first | omega | (have ugc0 := un gc0; omega)) (show ¬ ((c0 = c0 ∧ 9 = 4)) from by first | omega | (have ugc0 := un gc0; omega))).trans kr_18
              intro v9 ev9
              have t_25 : (x2 + (1 : Int32)).toInt = x2.toInt + 1 := i_add (x := x2) (y := (1 : Int32)) (by show (_ : Int) ≤ x2.toInt + 1; omega) (by show x2.toInt + 1 ≤ (_ : Int); omega)
              have t_26 : v9.toInt = (x2 + (1 : Int32)).toInt := congrArg Int32.toInt ev9
              exact ih12 x1 v9 σ8 mσ8 fσ8 (by omega) (by omega) (by omega) (by omega) (by omega)
            · intro q_19
              have b_27 : r6.toInt = 0 := congrArg Int32.toInt q_19
              have z_28 : (0 : Int32).toInt = 0 := rfl
              exact h9ret (0 : Int32) σ5 mσ5 fσ5 (by omega) (by omega)
  have U12 := T 200
  have f0 : FX (fun id => id = c0 + 1) (fun id k => (id = c0 ∧ k = 4) ∨ (id = c0 ∧ k = 11)) σ0 σ0 := FX_rf
  have t_29 := XI_c1 m0 (id := c0) (k := 10) (lim_F0_10 hc0)
  have t_30 := XI_c1 m0 (id := c0) (k := 11) (lim_F0_11 hc0)
  refine s_X2_readsBoth_r2_0 C hN hc0 lc0 ?_
  refine k_X2_readsPart_r2 hc0 lc0 m0  (by omega) (by omega) (by first | with_reducible assumption | with_reducible rfl | omega | assumption | rfl) (fun r2 σ1 mσ1 cσ1 plσ1 phσ1 => ?_)
  have fσ1 : FX (fun id => id = c0 + 1) (fun id k => (id = c0 ∧ k = 4) ∨ (id = c0 ∧ k = 11)) σ0 σ1 := FX_tr f0 cσ1 (fun x (h9 : x = c0 + 1) => (show x = c0 + 1 from h9)) (fun x k (h9 : (x = c0 ∧ k = 4) ∨ (x = c0 ∧ k = 11)) => (show (x = c0 + 1) ∨ ((x = c0 ∧ k = 4) ∨ (x = c0 ∧ k = 11)) from h9.elim (fun e9 => Or.inr (show (x = c0 ∧ k = 4) ∨ (x = c0 ∧ k = 11) from Or.inl (e9))) (fun h9 => Or.inr (show (x = c0 ∧ k = 4) ∨ (x = c0 ∧ k = 11) from Or.inr (h9)))))
  have k_31 : (gi σ1 c0 10).toInt = (gi σ0 c0 10).toInt := congrArg Int32.toInt (FX_i cσ1 (show ¬ (c0 = c0 + 1) from by first | omega | (have ugc0 := un gc0; omega)) (show ¬ ((c0 = c0 ∧ 10 = 4) ∨ (c0 = c0 ∧ 10 = 11)) from by first | omega | (have ugc0 := un gc0; omega)))
  have t_32 := XI_c1 mσ1 (id := c0) (k := 11) (lim_F0_11 hc0)
  have kr_33 : gr σ1 c0 9 = some 50 := (FX_r cσ1 (show ¬ (c0 = c0 + 1) from by first | omega | (have ugc0 := un gc0; omega)) (show ¬ ((c0 = c0 ∧ 9 = 4) ∨ (c0 = c0 ∧ 9 = 11)) from by first | omega | (have ugc0 := un gc0; omega))).trans pre0
  refine ⟨?_, ?_⟩
  · intro q_34
    have b_35 : ¬ r2.toInt = 0 := fun h9 => q_34 (Int32.toInt_inj.mp h9)
    have z_36 : (0 : Int32).toInt = 0 := rfl
    exact U12 a1 (0 : Int32) σ1 mσ1 fσ1 (by omega) (by omega) (by omega) (by omega) (by omega)
  · intro q_34
    have b_37 : r2.toInt = 0 := congrArg Int32.toInt q_34
    have z_38 : (0 : Int32).toInt = 0 := rfl
    exact h9ret (0 : Int32) σ1 mσ1 fσ1 (by omega) (by omega)
set_option maxRecDepth 100000 in
set_option maxHeartbeats 4000000 in
theorem k_X2_readsEither_r2 {l : Launch} {V : Vx} {c0 : Nat} {a1 : Int32} {σ0 : Sg} {Qk : Int32 → Sg → Prop} (hc0 : kd c0 = (12, 0)) (lc0 : c0 ∈ ids (V)) (m0 : XI V σ0) (l_a1 : 2 ≤ a1.toInt) (u_a1 : a1.toInt ≤ 2) (pre0 : gr σ0 c0 9 = some 50) (h9ret : ∀ (r : Int32) (σ' : Sg), XI V σ' → FX (fun id => id = c0 + 1) (fun id k => (id = c0 ∧ k = 4) ∨ (id = c0 ∧ k = 11)) σ0 σ' → (0 ≤ r.toInt) → (r.toInt ≤ 1) → Qk r σ') : K_X2_readsEither_r2 l V c0 a1 σ0 Qk := by
  refine e_X2_readsEither_r2 (fun M hl hV hN C => ?_)
  subst hl
  subst hV
  have gc0 : hid _ := kdF_ge hc0
  have T : ∀ n : Nat, (∀ (x1 : Int32) (x2 : Int32) (σ : Sg), XI (mV M) σ → FX (fun id => id = c0 + 1) (fun id k => (id = c0 ∧ k = 4) ∨ (id = c0 ∧ k = 11)) σ0 σ → (2 ≤ x1.toInt) → (x1.toInt ≤ 2) → (0 ≤ x2.toInt) → (x2.toInt ≤ 100) → (101 - x2.toInt).toNat < n → PS M 12 [(0, .ref c0), (1, .int x1), (2, .int x2)] [] σ (0, 0)) := by
    intro n
    induction n with
    | zero => exact fun _ _ _ _ _ _ _ _ _ h8 => absurd h8 (Nat.not_lt_zero _)
    | succ n ih =>
      have ih12 := ih
      · intro x1 x2 σ mσ fσ lx1 ux1 lx2 ux2 hmu
        have kr_c0_9 : gr σ c0 9 = some 50 := (FX_r fσ (show ¬ (c0 = c0 + 1) from by first | omega | (have ugc0 := un gc0; omega)) (show ¬ ((c0 = c0 ∧ 9 = 4) ∨ (c0 = c0 ∧ 9 = 11)) from by first | omega | (have ugc0 := un gc0; omega))).trans pre0
        have k_1 : (gi σ c0 10).toInt = (gi σ0 c0 10).toInt := congrArg Int32.toInt (FX_i fσ (show ¬ (c0 = c0 + 1) from by first | omega | (have ugc0 := un gc0; omega)) (show ¬ ((c0 = c0 ∧ 10 = 4) ∨ (c0 = c0 ∧ 10 = 11)) from by first | omega | (have ugc0 := un gc0; omega)))
        have t_2 := XI_c1 mσ (id := c0) (k := 10) (lim_F0_10 hc0)
        have t_3 := XI_c1 mσ (id := c0) (k := 11) (lim_F0_11 hc0)
        refine s_X2_readsEither_r2_12 C hN hc0 lc0 ?_
        refine ⟨?_, ?_⟩
        · intro q_4
          have b_5 : (100 : Int) ≤ x2.toInt := Int32.le_iff_toInt_le.mp q_4
          have z_6 : (1 : Int32).toInt = 1 := rfl
          exact h9ret (1 : Int32) σ mσ fσ (by omega) (by omega)
        · intro q_4
          have b_7 : ¬ (100 : Int) ≤ x2.toInt := fun h9 => q_4 (Int32.le_iff_toInt_le.mpr h9)
          have z_8 : (124 : Int32).toInt = 124 := rfl
          refine k_X2_takes hc0 lc0 mσ  (by omega) (by omega) (by first | with_reducible assumption | with_reducible rfl | omega | assumption | rfl) (fun r3 σ2 mσ2 cσ2 plσ2 phσ2 => ?_)
          have fσ2 : FX (fun id => id = c0 + 1) (fun id k => (id = c0 ∧ k = 4) ∨ (id = c0 ∧ k = 11)) σ0 σ2 := FX_tr fσ cσ2 (fun _ h9 => h9.elim) (fun x k (h9 : (x = c0 ∧ k = 11)) => (show (x = c0 + 1) ∨ ((x = c0 ∧ k = 4) ∨ (x = c0 ∧ k = 11)) from Or.inr (show (x = c0 ∧ k = 4) ∨ (x = c0 ∧ k = 11) from Or.inr (h9))))
          have k_9 : (gi σ2 c0 10).toInt = (gi σ c0 10).toInt := congrArg Int32.toInt (FX_i cσ2 id (show ¬ ((c0 = c0 ∧ 10 = 11)) from by first | omega | (have ugc0 := un gc0; omega)))
          have t_10 := XI_c1 mσ2 (id := c0) (k := 11) (lim_F0_11 hc0)
          have kr_11 : gr σ2 c0 9 = some 50 := (FX_r cσ2 id (show ¬ ((c0 = c0 ∧ 9 = 11)) from by first | omega | (have ugc0 := un gc0; omega))).trans kr_c0_9
          refine ⟨?_, ?_⟩
          · intro q_12
            have b_13 : r3.toInt = 0 := congrArg Int32.toInt q_12
            have z_14 : (1 : Int32).toInt = 1 := rfl
            exact h9ret (1 : Int32) σ2 mσ2 fσ2 (by omega) (by omega)
          · intro q_12
            have b_15 : ¬ r3.toInt = 0 := fun h9 => q_12 (Int32.toInt_inj.mp h9)
            refine k_X2_readsBoth_r2 hc0 lc0 mσ2  (by omega) (by omega) (by first | with_reducible assumption | with_reducible rfl | omega | assumption | rfl) (fun r6 σ5 mσ5 cσ5 plσ5 phσ5 => ?_)
            have fσ5 : FX (fun id => id = c0 + 1) (fun id k => (id = c0 ∧ k = 4) ∨ (id = c0 ∧ k = 11)) σ0 σ5 := FX_tr fσ2 cσ5 (fun x (h9 : x = c0 + 1) => (show x = c0 + 1 from h9)) (fun x k (h9 : (x = c0 ∧ k = 4) ∨ (x = c0 ∧ k = 11)) => (show (x = c0 + 1) ∨ ((x = c0 ∧ k = 4) ∨ (x = c0 ∧ k = 11)) from h9.elim (fun e9 => Or.inr (show (x = c0 ∧ k = 4) ∨ (x = c0 ∧ k = 11) from Or.inl (e9))) (fun h9 => Or.inr (show (x = c0 ∧ k = 4) ∨ (x = c0 ∧ k = 11) from Or.inr (h9)))))
            have k_16 : (gi σ5 c0 10).toInt = (gi σ2 c0 10).toInt := congrArg Int32.toInt (FX_i cσ5 (show ¬ (c0 = c0 + 1) from by first | omega | (have ugc0 := un gc0; omega)) (show ¬ ((c0 = c0 ∧ 10 = 4) ∨ (c0 = c0 ∧ 10 = 11)) from by first | omega | (have ugc0 := un gc0; omega)))
            have t_17 := XI_c1 mσ5 (id := c0) (k := 11) (lim_F0_11 hc0)
            have kr_18 : gr σ5 c0 9 = some 50 := (FX_r cσ5 (show ¬ (c0 = c0 + 1) from by first | omega | (have ugc0 := un gc0; omega)) (show ¬ ((c0 = c0 ∧ 9 = 4) ∨ (c0 = c0 ∧ 9 = 11)) from by first | omega | (have ugc0 := un gc0; omega))).trans kr_11
            refine ⟨?_, ?_⟩
            · intro q_19
              have b_20 : ¬ r6.toInt = 0 := fun h9 => q_19 (Int32.toInt_inj.mp h9)
              have z_21 : (-3 : Int32).toInt = -3 := rfl
              refine k_X2_writes hc0 lc0 mσ5  (by omega) (by omega) (fun σ8 mσ8 cσ8 => ?_)
              have fσ8 : FX (fun id => id = c0 + 1) (fun id k => (id = c0 ∧ k = 4) ∨ (id = c0 ∧ k = 11)) σ0 σ8 := FX_tr fσ5 cσ8 (fun x (h9 : x = c0 + 1) => (show x = c0 + 1 from h9)) (fun x k (h9 : (x = c0 ∧ k = 4)) => (show (x = c0 + 1) ∨ ((x = c0 ∧ k = 4) ∨ (x = c0 ∧ k = 11)) from Or.inr (show (x = c0 ∧ k = 4) ∨ (x = c0 ∧ k = 11) from Or.inl (h9))))
              have k_22 : (gi σ8 c0 10).toInt = (gi σ5 c0 10).toInt := congrArg Int32.toInt (FX_i cσ8 (show ¬ (c0 = c0 + 1) from by first | omega | (have ugc0 := un gc0; omega)) (show ¬ ((c0 = c0 ∧ 10 = 4)) from by first | omega | (have ugc0 := un gc0; omega)))
              have k_23 : (gi σ8 c0 11).toInt = (gi σ5 c0 11).toInt := congrArg Int32.toInt (FX_i cσ8 (show ¬ (c0 = c0 + 1) from by first | omega | (have ugc0 := un gc0; omega)) (show ¬ ((c0 = c0 ∧ 11 = 4)) from by first | omega | (have ugc0 := un gc0; omega)))
              have kr_24 : gr σ8 c0 9 = some 50 := (FX_r cσ8 (show ¬ (c0 = c0 + 1) from by first | omega | (have ugc0 := un gc0; omega)) (show ¬ ((c0 = c0 ∧ 9 = 4)) from by first | omega | (have ugc0 := un gc0; omega))).trans kr_18
              intro v9 ev9
              have t_25 : (x2 + (1 : Int32)).toInt = x2.toInt + 1 := i_add (x := x2) (y := (1 : Int32)) (by show (_ : Int) ≤ x2.toInt + 1; omega) (by show x2.toInt + 1 ≤ (_ : Int); omega)
              have t_26 : v9.toInt = (x2 + (1 : Int32)).toInt := congrArg Int32.toInt ev9
              exact ih12 x1 v9 σ8 mσ8 fσ8 (by omega) (by omega) (by omega) (by omega) (by omega)
            · intro q_19
              have b_27 : r6.toInt = 0 := congrArg Int32.toInt q_19
              have z_28 : (0 : Int32).toInt = 0 := rfl
              exact h9ret (0 : Int32) σ5 mσ5 fσ5 (by omega) (by omega)
  have U12 := T 200
  have f0 : FX (fun id => id = c0 + 1) (fun id k => (id = c0 ∧ k = 4) ∨ (id = c0 ∧ k = 11)) σ0 σ0 := FX_rf
  have t_29 := XI_c1 m0 (id := c0) (k := 10) (lim_F0_10 hc0)
  have t_30 := XI_c1 m0 (id := c0) (k := 11) (lim_F0_11 hc0)
  refine s_X2_readsEither_r2_0 C hN hc0 lc0 ?_
  refine k_X2_readsBoth_r2 hc0 lc0 m0  (by omega) (by omega) (by first | with_reducible assumption | with_reducible rfl | omega | assumption | rfl) (fun r2 σ1 mσ1 cσ1 plσ1 phσ1 => ?_)
  have fσ1 : FX (fun id => id = c0 + 1) (fun id k => (id = c0 ∧ k = 4) ∨ (id = c0 ∧ k = 11)) σ0 σ1 := FX_tr f0 cσ1 (fun x (h9 : x = c0 + 1) => (show x = c0 + 1 from h9)) (fun x k (h9 : (x = c0 ∧ k = 4) ∨ (x = c0 ∧ k = 11)) => (show (x = c0 + 1) ∨ ((x = c0 ∧ k = 4) ∨ (x = c0 ∧ k = 11)) from h9.elim (fun e9 => Or.inr (show (x = c0 ∧ k = 4) ∨ (x = c0 ∧ k = 11) from Or.inl (e9))) (fun h9 => Or.inr (show (x = c0 ∧ k = 4) ∨ (x = c0 ∧ k = 11) from Or.inr (h9)))))
  have k_31 : (gi σ1 c0 10).toInt = (gi σ0 c0 10).toInt := congrArg Int32.toInt (FX_i cσ1 (show ¬ (c0 = c0 + 1) from by first | omega | (have ugc0 := un gc0; omega)) (show ¬ ((c0 = c0 ∧ 10 = 4) ∨ (c0 = c0 ∧ 10 = 11)) from by first | omega | (have ugc0 := un gc0; omega)))
  have t_32 := XI_c1 mσ1 (id := c0) (k := 11) (lim_F0_11 hc0)
  have kr_33 : gr σ1 c0 9 = some 50 := (FX_r cσ1 (show ¬ (c0 = c0 + 1) from by first | omega | (have ugc0 := un gc0; omega)) (show ¬ ((c0 = c0 ∧ 9 = 4) ∨ (c0 = c0 ∧ 9 = 11)) from by first | omega | (have ugc0 := un gc0; omega))).trans pre0
  refine ⟨?_, ?_⟩
  · intro q_34
    have b_35 : ¬ r2.toInt = 0 := fun h9 => q_34 (Int32.toInt_inj.mp h9)
    have z_36 : (0 : Int32).toInt = 0 := rfl
    exact U12 a1 (0 : Int32) σ1 mσ1 fσ1 (by omega) (by omega) (by omega) (by omega) (by omega)
  · intro q_34
    have b_37 : r2.toInt = 0 := congrArg Int32.toInt q_34
    have z_38 : (0 : Int32).toInt = 0 := rfl
    exact h9ret (0 : Int32) σ1 mσ1 fσ1 (by omega) (by omega)
set_option maxRecDepth 100000 in
set_option maxHeartbeats 4000000 in
theorem k_X2_readsPart_r1 {l : Launch} {V : Vx} {c0 : Nat} {a1 : Int32} {σ0 : Sg} {Qk : Int32 → Sg → Prop} (hc0 : kd c0 = (12, 0)) (lc0 : c0 ∈ ids (V)) (m0 : XI V σ0) (l_a1 : 1 ≤ a1.toInt) (u_a1 : a1.toInt ≤ 1) (pre0 : gr σ0 c0 9 = some 50) (h9ret : ∀ (r : Int32) (σ' : Sg), XI V σ' → FX (fun id => id = c0 + 1) (fun id k => (id = c0 ∧ k = 4) ∨ (id = c0 ∧ k = 11)) σ0 σ' → (0 ≤ r.toInt) → (r.toInt ≤ 1) → Qk r σ') : K_X2_readsPart_r1 l V c0 a1 σ0 Qk := by
  refine e_X2_readsPart_r1 (fun M hl hV hN C => ?_)
  subst hl
  subst hV
  have gc0 : hid _ := kdF_ge hc0
  have T : ∀ n : Nat, (∀ (x1 : Int32) (σ : Sg), XI (mV M) σ → FX (fun id => id = c0 + 1) (fun id k => (id = c0 ∧ k = 4) ∨ (id = c0 ∧ k = 11)) σ0 σ → (1 ≤ x1.toInt) → (x1.toInt ≤ 1) → 1 < n → PS M 33 [(0, .ref c0), (1, .int x1)] [] σ (0, 0)) := by
    intro n
    induction n with
    | zero => exact fun _ _ _ _ _ _ h8 => absurd h8 (Nat.not_lt_zero _)
    | succ n ih =>
      have ih33 := ih
      · intro x1 σ mσ fσ lx1 ux1 hmu
        have kr_c0_9 : gr σ c0 9 = some 50 := (FX_r fσ (show ¬ (c0 = c0 + 1) from by first | omega | (have ugc0 := un gc0; omega)) (show ¬ ((c0 = c0 ∧ 9 = 4) ∨ (c0 = c0 ∧ 9 = 11)) from by first | omega | (have ugc0 := un gc0; omega))).trans pre0
        have k_1 : (gi σ c0 10).toInt = (gi σ0 c0 10).toInt := congrArg Int32.toInt (FX_i fσ (show ¬ (c0 = c0 + 1) from by first | omega | (have ugc0 := un gc0; omega)) (show ¬ ((c0 = c0 ∧ 10 = 4) ∨ (c0 = c0 ∧ 10 = 11)) from by first | omega | (have ugc0 := un gc0; omega)))
        have t_2 := XI_c1 mσ (id := c0) (k := 10) (lim_F0_10 hc0)
        have t_3 := XI_c1 mσ (id := c0) (k := 11) (lim_F0_11 hc0)
        refine s_X2_readsPart_r1_33 C hN hc0 lc0 ?_
        refine ⟨?_, ?_⟩
        · intro q_4
          have b_5 : (4 : Int) ≤ x1.toInt := Int32.le_iff_toInt_le.mp q_4
          refine k_X2_readsTest hc0 lc0 mσ  (by first | with_reducible assumption | with_reducible rfl | omega | assumption | rfl) (fun r3 σ2 mσ2 cσ2 plσ2 phσ2 => ?_)
          have fσ2 : FX (fun id => id = c0 + 1) (fun id k => (id = c0 ∧ k = 4) ∨ (id = c0 ∧ k = 11)) σ0 σ2 := FX_tr fσ cσ2 (fun x (h9 : x = c0 + 1) => (show x = c0 + 1 from h9)) (fun x k (h9 : (x = c0 ∧ k = 4) ∨ (x = c0 ∧ k = 11)) => (show (x = c0 + 1) ∨ ((x = c0 ∧ k = 4) ∨ (x = c0 ∧ k = 11)) from h9.elim (fun e9 => Or.inr (show (x = c0 ∧ k = 4) ∨ (x = c0 ∧ k = 11) from Or.inl (e9))) (fun h9 => Or.inr (show (x = c0 ∧ k = 4) ∨ (x = c0 ∧ k = 11) from Or.inr (h9)))))
          have k_6 : (gi σ2 c0 10).toInt = (gi σ c0 10).toInt := congrArg Int32.toInt (FX_i cσ2 (show ¬ (c0 = c0 + 1) from by first | omega | (have ugc0 := un gc0; omega)) (show ¬ ((c0 = c0 ∧ 10 = 4) ∨ (c0 = c0 ∧ 10 = 11)) from by first | omega | (have ugc0 := un gc0; omega)))
          have t_7 := XI_c1 mσ2 (id := c0) (k := 11) (lim_F0_11 hc0)
          have kr_8 : gr σ2 c0 9 = some 50 := (FX_r cσ2 (show ¬ (c0 = c0 + 1) from by first | omega | (have ugc0 := un gc0; omega)) (show ¬ ((c0 = c0 ∧ 9 = 4) ∨ (c0 = c0 ∧ 9 = 11)) from by first | omega | (have ugc0 := un gc0; omega))).trans kr_c0_9
          refine ⟨i_bool (by omega) (by omega), ?_⟩
          exact h9ret r3 σ2 mσ2 fσ2 (by omega) (by omega)
        · intro q_4
          have b_9 : ¬ (4 : Int) ≤ x1.toInt := fun h9 => q_4 (Int32.le_iff_toInt_le.mpr h9)
          have z_10 : (40 : Int32).toInt = 40 := rfl
          refine k_X2_takes hc0 lc0 mσ  (by omega) (by omega) (by first | with_reducible assumption | with_reducible rfl | omega | assumption | rfl) (fun r5 σ4 mσ4 cσ4 plσ4 phσ4 => ?_)
          have fσ4 : FX (fun id => id = c0 + 1) (fun id k => (id = c0 ∧ k = 4) ∨ (id = c0 ∧ k = 11)) σ0 σ4 := FX_tr fσ cσ4 (fun _ h9 => h9.elim) (fun x k (h9 : (x = c0 ∧ k = 11)) => (show (x = c0 + 1) ∨ ((x = c0 ∧ k = 4) ∨ (x = c0 ∧ k = 11)) from Or.inr (show (x = c0 ∧ k = 4) ∨ (x = c0 ∧ k = 11) from Or.inr (h9))))
          have k_11 : (gi σ4 c0 10).toInt = (gi σ c0 10).toInt := congrArg Int32.toInt (FX_i cσ4 id (show ¬ ((c0 = c0 ∧ 10 = 11)) from by first | omega | (have ugc0 := un gc0; omega)))
          have t_12 := XI_c1 mσ4 (id := c0) (k := 11) (lim_F0_11 hc0)
          have kr_13 : gr σ4 c0 9 = some 50 := (FX_r cσ4 id (show ¬ ((c0 = c0 ∧ 9 = 11)) from by first | omega | (have ugc0 := un gc0; omega))).trans kr_c0_9
          refine ⟨?_, ?_⟩
          · intro q_14
            have b_15 : r5.toInt = 0 := congrArg Int32.toInt q_14
            refine k_X2_readsTest hc0 lc0 mσ4  (by first | with_reducible assumption | with_reducible rfl | omega | assumption | rfl) (fun r8 σ7 mσ7 cσ7 plσ7 phσ7 => ?_)
            have fσ7 : FX (fun id => id = c0 + 1) (fun id k => (id = c0 ∧ k = 4) ∨ (id = c0 ∧ k = 11)) σ0 σ7 := FX_tr fσ4 cσ7 (fun x (h9 : x = c0 + 1) => (show x = c0 + 1 from h9)) (fun x k (h9 : (x = c0 ∧ k = 4) ∨ (x = c0 ∧ k = 11)) => (show (x = c0 + 1) ∨ ((x = c0 ∧ k = 4) ∨ (x = c0 ∧ k = 11)) from h9.elim (fun e9 => Or.inr (show (x = c0 ∧ k = 4) ∨ (x = c0 ∧ k = 11) from Or.inl (e9))) (fun h9 => Or.inr (show (x = c0 ∧ k = 4) ∨ (x = c0 ∧ k = 11) from Or.inr (h9)))))
            have k_16 : (gi σ7 c0 10).toInt = (gi σ4 c0 10).toInt := congrArg Int32.toInt (FX_i cσ7 (show ¬ (c0 = c0 + 1) from by first | omega | (have ugc0 := un gc0; omega)) (show ¬ ((c0 = c0 ∧ 10 = 4) ∨ (c0 = c0 ∧ 10 = 11)) from by first | omega | (have ugc0 := un gc0; omega)))
            have t_17 := XI_c1 mσ7 (id := c0) (k := 11) (lim_F0_11 hc0)
            have kr_18 : gr σ7 c0 9 = some 50 := (FX_r cσ7 (show ¬ (c0 = c0 + 1) from by first | omega | (have ugc0 := un gc0; omega)) (show ¬ ((c0 = c0 ∧ 9 = 4) ∨ (c0 = c0 ∧ 9 = 11)) from by first | omega | (have ugc0 := un gc0; omega))).trans kr_13
            refine ⟨i_bool (by omega) (by omega), ?_⟩
            exact h9ret r8 σ7 mσ7 fσ7 (by omega) (by omega)
          · intro q_14
            have b_19 : ¬ r5.toInt = 0 := fun h9 => q_14 (Int32.toInt_inj.mp h9)
            have t_20 : (x1 + (1 : Int32)).toInt = x1.toInt + 1 := i_add (x := x1) (y := (1 : Int32)) (by show (_ : Int) ≤ x1.toInt + 1; omega) (by show x1.toInt + 1 ≤ (_ : Int); omega)
            refine k_X2_readsEither_r2 hc0 lc0 mσ4  (by omega) (by omega) (by first | with_reducible assumption | with_reducible rfl | omega | assumption | rfl) (fun r10 σ9 mσ9 cσ9 plσ9 phσ9 => ?_)
            have fσ9 : FX (fun id => id = c0 + 1) (fun id k => (id = c0 ∧ k = 4) ∨ (id = c0 ∧ k = 11)) σ0 σ9 := FX_tr fσ4 cσ9 (fun x (h9 : x = c0 + 1) => (show x = c0 + 1 from h9)) (fun x k (h9 : (x = c0 ∧ k = 4) ∨ (x = c0 ∧ k = 11)) => (show (x = c0 + 1) ∨ ((x = c0 ∧ k = 4) ∨ (x = c0 ∧ k = 11)) from h9.elim (fun e9 => Or.inr (show (x = c0 ∧ k = 4) ∨ (x = c0 ∧ k = 11) from Or.inl (e9))) (fun h9 => Or.inr (show (x = c0 ∧ k = 4) ∨ (x = c0 ∧ k = 11) from Or.inr (h9)))))
            have k_21 : (gi σ9 c0 10).toInt = (gi σ4 c0 10).toInt := congrArg Int32.toInt (FX_i cσ9 (show ¬ (c0 = c0 + 1) from by first | omega | (have ugc0 := un gc0; omega)) (show ¬ ((c0 = c0 ∧ 10 = 4) ∨ (c0 = c0 ∧ 10 = 11)) from by first | omega | (have ugc0 := un gc0; omega)))
            have t_22 := XI_c1 mσ9 (id := c0) (k := 11) (lim_F0_11 hc0)
            have kr_23 : gr σ9 c0 9 = some 50 := (FX_r cσ9 (show ¬ (c0 = c0 + 1) from by first | omega | (have ugc0 := un gc0; omega)) (show ¬ ((c0 = c0 ∧ 9 = 4) ∨ (c0 = c0 ∧ 9 = 11)) from by first | omega | (have ugc0 := un gc0; omega))).trans kr_13
            refine ⟨?_, ?_⟩
            · intro q_24
              have b_25 : r10.toInt = 0 := congrArg Int32.toInt q_24
              have z_26 : (0 : Int32).toInt = 0 := rfl
              exact h9ret (0 : Int32) σ9 mσ9 fσ9 (by omega) (by omega)
            · intro q_24
              have b_27 : ¬ r10.toInt = 0 := fun h9 => q_24 (Int32.toInt_inj.mp h9)
              have z_28 : (41 : Int32).toInt = 41 := rfl
              refine k_X2_takes hc0 lc0 mσ9  (by omega) (by omega) (by first | with_reducible assumption | with_reducible rfl | omega | assumption | rfl) (fun r13 σ12 mσ12 cσ12 plσ12 phσ12 => ?_)
              have fσ12 : FX (fun id => id = c0 + 1) (fun id k => (id = c0 ∧ k = 4) ∨ (id = c0 ∧ k = 11)) σ0 σ12 := FX_tr fσ9 cσ12 (fun _ h9 => h9.elim) (fun x k (h9 : (x = c0 ∧ k = 11)) => (show (x = c0 + 1) ∨ ((x = c0 ∧ k = 4) ∨ (x = c0 ∧ k = 11)) from Or.inr (show (x = c0 ∧ k = 4) ∨ (x = c0 ∧ k = 11) from Or.inr (h9))))
              have k_29 : (gi σ12 c0 10).toInt = (gi σ9 c0 10).toInt := congrArg Int32.toInt (FX_i cσ12 id (show ¬ ((c0 = c0 ∧ 10 = 11)) from by first | omega | (have ugc0 := un gc0; omega)))
              have t_30 := XI_c1 mσ12 (id := c0) (k := 11) (lim_F0_11 hc0)
              have kr_31 : gr σ12 c0 9 = some 50 := (FX_r cσ12 id (show ¬ ((c0 = c0 ∧ 9 = 11)) from by first | omega | (have ugc0 := un gc0; omega))).trans kr_23
              refine ⟨?_, ?_⟩
              · intro q_32
                have b_33 : r13.toInt = 0 := congrArg Int32.toInt q_32
                have z_34 : (0 : Int32).toInt = 0 := rfl
                exact h9ret (0 : Int32) σ12 mσ12 fσ12 (by omega) (by omega)
              · intro q_32
                have b_35 : ¬ r13.toInt = 0 := fun h9 => q_32 (Int32.toInt_inj.mp h9)
                have z_36 : (1 : Int32).toInt = 1 := rfl
                exact h9ret (1 : Int32) σ12 mσ12 fσ12 (by omega) (by omega)
  have U33 := T 9
  have f0 : FX (fun id => id = c0 + 1) (fun id k => (id = c0 ∧ k = 4) ∨ (id = c0 ∧ k = 11)) σ0 σ0 := FX_rf
  have t_37 := XI_c1 m0 (id := c0) (k := 10) (lim_F0_10 hc0)
  have t_38 := XI_c1 m0 (id := c0) (k := 11) (lim_F0_11 hc0)
  refine s_X2_readsPart_r1_0 C hN hc0 lc0 ?_
  refine ⟨?_, ?_⟩
  · intro q_39
    have b_40 : (4 : Int) ≤ a1.toInt := Int32.le_iff_toInt_le.mp q_39
    exact U33 a1 σ0 m0 f0 (by omega) (by omega) (by omega)
  · intro q_39
    have b_41 : ¬ (4 : Int) ≤ a1.toInt := fun h9 => q_39 (Int32.le_iff_toInt_le.mpr h9)
    have z_42 : (33 : Int32).toInt = 33 := rfl
    refine k_X2_takes hc0 lc0 m0  (by omega) (by omega) (by first | with_reducible assumption | with_reducible rfl | omega | assumption | rfl) (fun r3 σ2 mσ2 cσ2 plσ2 phσ2 => ?_)
    have fσ2 : FX (fun id => id = c0 + 1) (fun id k => (id = c0 ∧ k = 4) ∨ (id = c0 ∧ k = 11)) σ0 σ2 := FX_tr f0 cσ2 (fun _ h9 => h9.elim) (fun x k (h9 : (x = c0 ∧ k = 11)) => (show (x = c0 + 1) ∨ ((x = c0 ∧ k = 4) ∨ (x = c0 ∧ k = 11)) from Or.inr (show (x = c0 ∧ k = 4) ∨ (x = c0 ∧ k = 11) from Or.inr (h9))))
    have k_43 : (gi σ2 c0 10).toInt = (gi σ0 c0 10).toInt := congrArg Int32.toInt (FX_i cσ2 id (show ¬ ((c0 = c0 ∧ 10 = 11)) from by first | omega | (have ugc0 := un gc0; omega)))
    have t_44 := XI_c1 mσ2 (id := c0) (k := 11) (lim_F0_11 hc0)
    have kr_45 : gr σ2 c0 9 = some 50 := (FX_r cσ2 id (show ¬ ((c0 = c0 ∧ 9 = 11)) from by first | omega | (have ugc0 := un gc0; omega))).trans pre0
    refine ⟨?_, ?_⟩
    · intro q_46
      have b_47 : r3.toInt = 0 := congrArg Int32.toInt q_46
      exact U33 a1 σ2 mσ2 fσ2 (by omega) (by omega) (by omega)
    · intro q_46
      have b_48 : ¬ r3.toInt = 0 := fun h9 => q_46 (Int32.toInt_inj.mp h9)
      have t_49 : (a1 + (1 : Int32)).toInt = a1.toInt + 1 := i_add (x := a1) (y := (1 : Int32)) (by show (_ : Int) ≤ a1.toInt + 1; omega) (by show a1.toInt + 1 ≤ (_ : Int); omega)
      refine k_X2_readsPart_r2 hc0 lc0 mσ2  (by omega) (by omega) (by first | with_reducible assumption | with_reducible rfl | omega | assumption | rfl) (fun r6 σ5 mσ5 cσ5 plσ5 phσ5 => ?_)
      have fσ5 : FX (fun id => id = c0 + 1) (fun id k => (id = c0 ∧ k = 4) ∨ (id = c0 ∧ k = 11)) σ0 σ5 := FX_tr fσ2 cσ5 (fun x (h9 : x = c0 + 1) => (show x = c0 + 1 from h9)) (fun x k (h9 : (x = c0 ∧ k = 4) ∨ (x = c0 ∧ k = 11)) => (show (x = c0 + 1) ∨ ((x = c0 ∧ k = 4) ∨ (x = c0 ∧ k = 11)) from h9.elim (fun e9 => Or.inr (show (x = c0 ∧ k = 4) ∨ (x = c0 ∧ k = 11) from Or.inl (e9))) (fun h9 => Or.inr (show (x = c0 ∧ k = 4) ∨ (x = c0 ∧ k = 11) from Or.inr (h9)))))
      have k_50 : (gi σ5 c0 10).toInt = (gi σ2 c0 10).toInt := congrArg Int32.toInt (FX_i cσ5 (show ¬ (c0 = c0 + 1) from by first | omega | (have ugc0 := un gc0; omega)) (show ¬ ((c0 = c0 ∧ 10 = 4) ∨ (c0 = c0 ∧ 10 = 11)) from by first | omega | (have ugc0 := un gc0; omega)))
      have t_51 := XI_c1 mσ5 (id := c0) (k := 11) (lim_F0_11 hc0)
      have kr_52 : gr σ5 c0 9 = some 50 := (FX_r cσ5 (show ¬ (c0 = c0 + 1) from by first | omega | (have ugc0 := un gc0; omega)) (show ¬ ((c0 = c0 ∧ 9 = 4) ∨ (c0 = c0 ∧ 9 = 11)) from by first | omega | (have ugc0 := un gc0; omega))).trans kr_45
      refine ⟨?_, ?_⟩
      · intro q_53
        have b_54 : ¬ r6.toInt = 0 := fun h9 => q_53 (Int32.toInt_inj.mp h9)
        have z_55 : (-1 : Int32).toInt = -1 := rfl
        refine k_X2_writes hc0 lc0 mσ5  (by omega) (by omega) (fun σ8 mσ8 cσ8 => ?_)
        have fσ8 : FX (fun id => id = c0 + 1) (fun id k => (id = c0 ∧ k = 4) ∨ (id = c0 ∧ k = 11)) σ0 σ8 := FX_tr fσ5 cσ8 (fun x (h9 : x = c0 + 1) => (show x = c0 + 1 from h9)) (fun x k (h9 : (x = c0 ∧ k = 4)) => (show (x = c0 + 1) ∨ ((x = c0 ∧ k = 4) ∨ (x = c0 ∧ k = 11)) from Or.inr (show (x = c0 ∧ k = 4) ∨ (x = c0 ∧ k = 11) from Or.inl (h9))))
        have k_56 : (gi σ8 c0 10).toInt = (gi σ5 c0 10).toInt := congrArg Int32.toInt (FX_i cσ8 (show ¬ (c0 = c0 + 1) from by first | omega | (have ugc0 := un gc0; omega)) (show ¬ ((c0 = c0 ∧ 10 = 4)) from by first | omega | (have ugc0 := un gc0; omega)))
        have k_57 : (gi σ8 c0 11).toInt = (gi σ5 c0 11).toInt := congrArg Int32.toInt (FX_i cσ8 (show ¬ (c0 = c0 + 1) from by first | omega | (have ugc0 := un gc0; omega)) (show ¬ ((c0 = c0 ∧ 11 = 4)) from by first | omega | (have ugc0 := un gc0; omega)))
        have kr_58 : gr σ8 c0 9 = some 50 := (FX_r cσ8 (show ¬ (c0 = c0 + 1) from by first | omega | (have ugc0 := un gc0; omega)) (show ¬ ((c0 = c0 ∧ 9 = 4)) from by first | omega | (have ugc0 := un gc0; omega))).trans kr_52
        have z_59 : (1 : Int32).toInt = 1 := rfl
        exact h9ret (1 : Int32) σ8 mσ8 fσ8 (by omega) (by omega)
      · intro q_53
        have b_60 : r6.toInt = 0 := congrArg Int32.toInt q_53
        have z_61 : (0 : Int32).toInt = 0 := rfl
        exact h9ret (0 : Int32) σ5 mσ5 fσ5 (by omega) (by omega)
set_option maxRecDepth 100000 in
set_option maxHeartbeats 4000000 in
theorem k_X2_readsBoth_r1 {l : Launch} {V : Vx} {c0 : Nat} {a1 : Int32} {σ0 : Sg} {Qk : Int32 → Sg → Prop} (hc0 : kd c0 = (12, 0)) (lc0 : c0 ∈ ids (V)) (m0 : XI V σ0) (l_a1 : 1 ≤ a1.toInt) (u_a1 : a1.toInt ≤ 1) (pre0 : gr σ0 c0 9 = some 50) (h9ret : ∀ (r : Int32) (σ' : Sg), XI V σ' → FX (fun id => id = c0 + 1) (fun id k => (id = c0 ∧ k = 4) ∨ (id = c0 ∧ k = 11)) σ0 σ' → (0 ≤ r.toInt) → (r.toInt ≤ 1) → Qk r σ') : K_X2_readsBoth_r1 l V c0 a1 σ0 Qk := by
  refine e_X2_readsBoth_r1 (fun M hl hV hN C => ?_)
  subst hl
  subst hV
  have gc0 : hid _ := kdF_ge hc0
  have T : ∀ n : Nat, (∀ (x1 : Int32) (x2 : Int32) (σ : Sg), XI (mV M) σ → FX (fun id => id = c0 + 1) (fun id k => (id = c0 ∧ k = 4) ∨ (id = c0 ∧ k = 11)) σ0 σ → (1 ≤ x1.toInt) → (x1.toInt ≤ 1) → (0 ≤ x2.toInt) → (x2.toInt ≤ 100) → (101 - x2.toInt).toNat < n → PS M 12 [(0, .ref c0), (1, .int x1), (2, .int x2)] [] σ (0, 0)) := by
    intro n
    induction n with
    | zero => exact fun _ _ _ _ _ _ _ _ _ h8 => absurd h8 (Nat.not_lt_zero _)
    | succ n ih =>
      have ih12 := ih
      · intro x1 x2 σ mσ fσ lx1 ux1 lx2 ux2 hmu
        have kr_c0_9 : gr σ c0 9 = some 50 := (FX_r fσ (show ¬ (c0 = c0 + 1) from by first | omega | (have ugc0 := un gc0; omega)) (show ¬ ((c0 = c0 ∧ 9 = 4) ∨ (c0 = c0 ∧ 9 = 11)) from by first | omega | (have ugc0 := un gc0; omega))).trans pre0
        have k_1 : (gi σ c0 10).toInt = (gi σ0 c0 10).toInt := congrArg Int32.toInt (FX_i fσ (show ¬ (c0 = c0 + 1) from by first | omega | (have ugc0 := un gc0; omega)) (show ¬ ((c0 = c0 ∧ 10 = 4) ∨ (c0 = c0 ∧ 10 = 11)) from by first | omega | (have ugc0 := un gc0; omega)))
        have t_2 := XI_c1 mσ (id := c0) (k := 10) (lim_F0_10 hc0)
        have t_3 := XI_c1 mσ (id := c0) (k := 11) (lim_F0_11 hc0)
        refine s_X2_readsBoth_r1_12 C hN hc0 lc0 ?_
        refine ⟨?_, ?_⟩
        · intro q_4
          have b_5 : (100 : Int) ≤ x2.toInt := Int32.le_iff_toInt_le.mp q_4
          have z_6 : (1 : Int32).toInt = 1 := rfl
          exact h9ret (1 : Int32) σ mσ fσ (by omega) (by omega)
        · intro q_4
          have b_7 : ¬ (100 : Int) ≤ x2.toInt := fun h9 => q_4 (Int32.le_iff_toInt_le.mpr h9)
          have z_8 : (38 : Int32).toInt = 38 := rfl
          refine k_X2_takes hc0 lc0 mσ  (by omega) (by omega) (by first | with_reducible assumption | with_reducible rfl | omega | assumption | rfl) (fun r3 σ2 mσ2 cσ2 plσ2 phσ2 => ?_)
          have fσ2 : FX (fun id => id = c0 + 1) (fun id k => (id = c0 ∧ k = 4) ∨ (id = c0 ∧ k = 11)) σ0 σ2 := FX_tr fσ cσ2 (fun _ h9 => h9.elim) (fun x k (h9 : (x = c0 ∧ k = 11)) => (show (x = c0 + 1) ∨ ((x = c0 ∧ k = 4) ∨ (x = c0 ∧ k = 11)) from Or.inr (show (x = c0 ∧ k = 4) ∨ (x = c0 ∧ k = 11) from Or.inr (h9))))
          have k_9 : (gi σ2 c0 10).toInt = (gi σ c0 10).toInt := congrArg Int32.toInt (FX_i cσ2 id (show ¬ ((c0 = c0 ∧ 10 = 11)) from by first | omega | (have ugc0 := un gc0; omega)))
          have t_10 := XI_c1 mσ2 (id := c0) (k := 11) (lim_F0_11 hc0)
          have kr_11 : gr σ2 c0 9 = some 50 := (FX_r cσ2 id (show ¬ ((c0 = c0 ∧ 9 = 11)) from by first | omega | (have ugc0 := un gc0; omega))).trans kr_c0_9
          refine ⟨?_, ?_⟩
          · intro q_12
            have b_13 : r3.toInt = 0 := congrArg Int32.toInt q_12
            have z_14 : (1 : Int32).toInt = 1 := rfl
            exact h9ret (1 : Int32) σ2 mσ2 fσ2 (by omega) (by omega)
          · intro q_12
            have b_15 : ¬ r3.toInt = 0 := fun h9 => q_12 (Int32.toInt_inj.mp h9)
            refine k_X2_readsPart_r1 hc0 lc0 mσ2  (by omega) (by omega) (by first | with_reducible assumption | with_reducible rfl | omega | assumption | rfl) (fun r6 σ5 mσ5 cσ5 plσ5 phσ5 => ?_)
            have fσ5 : FX (fun id => id = c0 + 1) (fun id k => (id = c0 ∧ k = 4) ∨ (id = c0 ∧ k = 11)) σ0 σ5 := FX_tr fσ2 cσ5 (fun x (h9 : x = c0 + 1) => (show x = c0 + 1 from h9)) (fun x k (h9 : (x = c0 ∧ k = 4) ∨ (x = c0 ∧ k = 11)) => (show (x = c0 + 1) ∨ ((x = c0 ∧ k = 4) ∨ (x = c0 ∧ k = 11)) from h9.elim (fun e9 => Or.inr (show (x = c0 ∧ k = 4) ∨ (x = c0 ∧ k = 11) from Or.inl (e9))) (fun h9 => Or.inr (show (x = c0 ∧ k = 4) ∨ (x = c0 ∧ k = 11) from Or.inr (h9)))))
            have k_16 : (gi σ5 c0 10).toInt = (gi σ2 c0 10).toInt := congrArg Int32.toInt (FX_i cσ5 (show ¬ (c0 = c0 + 1) from by first | omega | (have ugc0 := un gc0; omega)) (show ¬ ((c0 = c0 ∧ 10 = 4) ∨ (c0 = c0 ∧ 10 = 11)) from by first | omega | (have ugc0 := un gc0; omega)))
            have t_17 := XI_c1 mσ5 (id := c0) (k := 11) (lim_F0_11 hc0)
            have kr_18 : gr σ5 c0 9 = some 50 := (FX_r cσ5 (show ¬ (c0 = c0 + 1) from by first | omega | (have ugc0 := un gc0; omega)) (show ¬ ((c0 = c0 ∧ 9 = 4) ∨ (c0 = c0 ∧ 9 = 11)) from by first | omega | (have ugc0 := un gc0; omega))).trans kr_11
            refine ⟨?_, ?_⟩
            · intro q_19
              have b_20 : ¬ r6.toInt = 0 := fun h9 => q_19 (Int32.toInt_inj.mp h9)
              have z_21 : (-2 : Int32).toInt = -2 := rfl
              refine k_X2_writes hc0 lc0 mσ5  (by omega) (by omega) (fun σ8 mσ8 cσ8 => ?_)
              have fσ8 : FX (fun id => id = c0 + 1) (fun id k => (id = c0 ∧ k = 4) ∨ (id = c0 ∧ k = 11)) σ0 σ8 := FX_tr fσ5 cσ8 (fun x (h9 : x = c0 + 1) => (show x = c0 + 1 from h9)) (fun x k (h9 : (x = c0 ∧ k = 4)) => (show (x = c0 + 1) ∨ ((x = c0 ∧ k = 4) ∨ (x = c0 ∧ k = 11)) from Or.inr (show (x = c0 ∧ k = 4) ∨ (x = c0 ∧ k = 11) from Or.inl (h9))))
              have k_22 : (gi σ8 c0 10).toInt = (gi σ5 c0 10).toInt := congrArg Int32.toInt (FX_i cσ8 (show ¬ (c0 = c0 + 1) from by first | omega | (have ugc0 := un gc0; omega)) (show ¬ ((c0 = c0 ∧ 10 = 4)) from by first | omega | (have ugc0 := un gc0; omega)))
              have k_23 : (gi σ8 c0 11).toInt = (gi σ5 c0 11).toInt := congrArg Int32.toInt (FX_i cσ8 (show ¬ (c0 = c0 + 1) from by first | omega | (have ugc0 := un gc0; omega)) (show ¬ ((c0 = c0 ∧ 11 = 4)) from by first | omega | (have ugc0 := un gc0; omega)))
              have kr_24 : gr σ8 c0 9 = some 50 := (FX_r cσ8 (show ¬ (c0 = c0 + 1) from by first | omega | (have ugc0 := un gc0; omega)) (show ¬ ((c0 = c0 ∧ 9 = 4)) from by first | omega | (have ugc0 := un gc0; omega))).trans kr_18
              intro v9 ev9
              have t_25 : (x2 + (1 : Int32)).toInt = x2.toInt + 1 := i_add (x := x2) (y := (1 : Int32)) (by show (_ : Int) ≤ x2.toInt + 1; omega) (by show x2.toInt + 1 ≤ (_ : Int); omega)
              have t_26 : v9.toInt = (x2 + (1 : Int32)).toInt := congrArg Int32.toInt ev9
              exact ih12 x1 v9 σ8 mσ8 fσ8 (by omega) (by omega) (by omega) (by omega) (by omega)
            · intro q_19
              have b_27 : r6.toInt = 0 := congrArg Int32.toInt q_19
              have z_28 : (0 : Int32).toInt = 0 := rfl
              exact h9ret (0 : Int32) σ5 mσ5 fσ5 (by omega) (by omega)
  have U12 := T 200
  have f0 : FX (fun id => id = c0 + 1) (fun id k => (id = c0 ∧ k = 4) ∨ (id = c0 ∧ k = 11)) σ0 σ0 := FX_rf
  have t_29 := XI_c1 m0 (id := c0) (k := 10) (lim_F0_10 hc0)
  have t_30 := XI_c1 m0 (id := c0) (k := 11) (lim_F0_11 hc0)
  refine s_X2_readsBoth_r1_0 C hN hc0 lc0 ?_
  refine k_X2_readsPart_r1 hc0 lc0 m0  (by omega) (by omega) (by first | with_reducible assumption | with_reducible rfl | omega | assumption | rfl) (fun r2 σ1 mσ1 cσ1 plσ1 phσ1 => ?_)
  have fσ1 : FX (fun id => id = c0 + 1) (fun id k => (id = c0 ∧ k = 4) ∨ (id = c0 ∧ k = 11)) σ0 σ1 := FX_tr f0 cσ1 (fun x (h9 : x = c0 + 1) => (show x = c0 + 1 from h9)) (fun x k (h9 : (x = c0 ∧ k = 4) ∨ (x = c0 ∧ k = 11)) => (show (x = c0 + 1) ∨ ((x = c0 ∧ k = 4) ∨ (x = c0 ∧ k = 11)) from h9.elim (fun e9 => Or.inr (show (x = c0 ∧ k = 4) ∨ (x = c0 ∧ k = 11) from Or.inl (e9))) (fun h9 => Or.inr (show (x = c0 ∧ k = 4) ∨ (x = c0 ∧ k = 11) from Or.inr (h9)))))
  have k_31 : (gi σ1 c0 10).toInt = (gi σ0 c0 10).toInt := congrArg Int32.toInt (FX_i cσ1 (show ¬ (c0 = c0 + 1) from by first | omega | (have ugc0 := un gc0; omega)) (show ¬ ((c0 = c0 ∧ 10 = 4) ∨ (c0 = c0 ∧ 10 = 11)) from by first | omega | (have ugc0 := un gc0; omega)))
  have t_32 := XI_c1 mσ1 (id := c0) (k := 11) (lim_F0_11 hc0)
  have kr_33 : gr σ1 c0 9 = some 50 := (FX_r cσ1 (show ¬ (c0 = c0 + 1) from by first | omega | (have ugc0 := un gc0; omega)) (show ¬ ((c0 = c0 ∧ 9 = 4) ∨ (c0 = c0 ∧ 9 = 11)) from by first | omega | (have ugc0 := un gc0; omega))).trans pre0
  refine ⟨?_, ?_⟩
  · intro q_34
    have b_35 : ¬ r2.toInt = 0 := fun h9 => q_34 (Int32.toInt_inj.mp h9)
    have z_36 : (0 : Int32).toInt = 0 := rfl
    exact U12 a1 (0 : Int32) σ1 mσ1 fσ1 (by omega) (by omega) (by omega) (by omega) (by omega)
  · intro q_34
    have b_37 : r2.toInt = 0 := congrArg Int32.toInt q_34
    have z_38 : (0 : Int32).toInt = 0 := rfl
    exact h9ret (0 : Int32) σ1 mσ1 fσ1 (by omega) (by omega)
set_option maxRecDepth 100000 in
set_option maxHeartbeats 4000000 in
theorem k_X2_readsEither_r1 {l : Launch} {V : Vx} {c0 : Nat} {a1 : Int32} {σ0 : Sg} {Qk : Int32 → Sg → Prop} (hc0 : kd c0 = (12, 0)) (lc0 : c0 ∈ ids (V)) (m0 : XI V σ0) (l_a1 : 1 ≤ a1.toInt) (u_a1 : a1.toInt ≤ 1) (pre0 : gr σ0 c0 9 = some 50) (h9ret : ∀ (r : Int32) (σ' : Sg), XI V σ' → FX (fun id => id = c0 + 1) (fun id k => (id = c0 ∧ k = 4) ∨ (id = c0 ∧ k = 11)) σ0 σ' → (0 ≤ r.toInt) → (r.toInt ≤ 1) → Qk r σ') : K_X2_readsEither_r1 l V c0 a1 σ0 Qk := by
  refine e_X2_readsEither_r1 (fun M hl hV hN C => ?_)
  subst hl
  subst hV
  have gc0 : hid _ := kdF_ge hc0
  have T : ∀ n : Nat, (∀ (x1 : Int32) (x2 : Int32) (σ : Sg), XI (mV M) σ → FX (fun id => id = c0 + 1) (fun id k => (id = c0 ∧ k = 4) ∨ (id = c0 ∧ k = 11)) σ0 σ → (1 ≤ x1.toInt) → (x1.toInt ≤ 1) → (0 ≤ x2.toInt) → (x2.toInt ≤ 100) → (101 - x2.toInt).toNat < n → PS M 12 [(0, .ref c0), (1, .int x1), (2, .int x2)] [] σ (0, 0)) := by
    intro n
    induction n with
    | zero => exact fun _ _ _ _ _ _ _ _ _ h8 => absurd h8 (Nat.not_lt_zero _)
    | succ n ih =>
      have ih12 := ih
      · intro x1 x2 σ mσ fσ lx1 ux1 lx2 ux2 hmu
        have kr_c0_9 : gr σ c0 9 = some 50 := (FX_r fσ (show ¬ (c0 = c0 + 1) from by first | omega | (have ugc0 := un gc0; omega)) (show ¬ ((c0 = c0 ∧ 9 = 4) ∨ (c0 = c0 ∧ 9 = 11)) from by first | omega | (have ugc0 := un gc0; omega))).trans pre0
        have k_1 : (gi σ c0 10).toInt = (gi σ0 c0 10).toInt := congrArg Int32.toInt (FX_i fσ (show ¬ (c0 = c0 + 1) from by first | omega | (have ugc0 := un gc0; omega)) (show ¬ ((c0 = c0 ∧ 10 = 4) ∨ (c0 = c0 ∧ 10 = 11)) from by first | omega | (have ugc0 := un gc0; omega)))
        have t_2 := XI_c1 mσ (id := c0) (k := 10) (lim_F0_10 hc0)
        have t_3 := XI_c1 mσ (id := c0) (k := 11) (lim_F0_11 hc0)
        refine s_X2_readsEither_r1_12 C hN hc0 lc0 ?_
        refine ⟨?_, ?_⟩
        · intro q_4
          have b_5 : (100 : Int) ≤ x2.toInt := Int32.le_iff_toInt_le.mp q_4
          have z_6 : (1 : Int32).toInt = 1 := rfl
          exact h9ret (1 : Int32) σ mσ fσ (by omega) (by omega)
        · intro q_4
          have b_7 : ¬ (100 : Int) ≤ x2.toInt := fun h9 => q_4 (Int32.le_iff_toInt_le.mpr h9)
          have z_8 : (124 : Int32).toInt = 124 := rfl
          refine k_X2_takes hc0 lc0 mσ  (by omega) (by omega) (by first | with_reducible assumption | with_reducible rfl | omega | assumption | rfl) (fun r3 σ2 mσ2 cσ2 plσ2 phσ2 => ?_)
          have fσ2 : FX (fun id => id = c0 + 1) (fun id k => (id = c0 ∧ k = 4) ∨ (id = c0 ∧ k = 11)) σ0 σ2 := FX_tr fσ cσ2 (fun _ h9 => h9.elim) (fun x k (h9 : (x = c0 ∧ k = 11)) => (show (x = c0 + 1) ∨ ((x = c0 ∧ k = 4) ∨ (x = c0 ∧ k = 11)) from Or.inr (show (x = c0 ∧ k = 4) ∨ (x = c0 ∧ k = 11) from Or.inr (h9))))
          have k_9 : (gi σ2 c0 10).toInt = (gi σ c0 10).toInt := congrArg Int32.toInt (FX_i cσ2 id (show ¬ ((c0 = c0 ∧ 10 = 11)) from by first | omega | (have ugc0 := un gc0; omega)))
          have t_10 := XI_c1 mσ2 (id := c0) (k := 11) (lim_F0_11 hc0)
          have kr_11 : gr σ2 c0 9 = some 50 := (FX_r cσ2 id (show ¬ ((c0 = c0 ∧ 9 = 11)) from by first | omega | (have ugc0 := un gc0; omega))).trans kr_c0_9
          refine ⟨?_, ?_⟩
          · intro q_12
            have b_13 : r3.toInt = 0 := congrArg Int32.toInt q_12
            have z_14 : (1 : Int32).toInt = 1 := rfl
            exact h9ret (1 : Int32) σ2 mσ2 fσ2 (by omega) (by omega)
          · intro q_12
            have b_15 : ¬ r3.toInt = 0 := fun h9 => q_12 (Int32.toInt_inj.mp h9)
            refine k_X2_readsBoth_r1 hc0 lc0 mσ2  (by omega) (by omega) (by first | with_reducible assumption | with_reducible rfl | omega | assumption | rfl) (fun r6 σ5 mσ5 cσ5 plσ5 phσ5 => ?_)
            have fσ5 : FX (fun id => id = c0 + 1) (fun id k => (id = c0 ∧ k = 4) ∨ (id = c0 ∧ k = 11)) σ0 σ5 := FX_tr fσ2 cσ5 (fun x (h9 : x = c0 + 1) => (show x = c0 + 1 from h9)) (fun x k (h9 : (x = c0 ∧ k = 4) ∨ (x = c0 ∧ k = 11)) => (show (x = c0 + 1) ∨ ((x = c0 ∧ k = 4) ∨ (x = c0 ∧ k = 11)) from h9.elim (fun e9 => Or.inr (show (x = c0 ∧ k = 4) ∨ (x = c0 ∧ k = 11) from Or.inl (e9))) (fun h9 => Or.inr (show (x = c0 ∧ k = 4) ∨ (x = c0 ∧ k = 11) from Or.inr (h9)))))
            have k_16 : (gi σ5 c0 10).toInt = (gi σ2 c0 10).toInt := congrArg Int32.toInt (FX_i cσ5 (show ¬ (c0 = c0 + 1) from by first | omega | (have ugc0 := un gc0; omega)) (show ¬ ((c0 = c0 ∧ 10 = 4) ∨ (c0 = c0 ∧ 10 = 11)) from by first | omega | (have ugc0 := un gc0; omega)))
            have t_17 := XI_c1 mσ5 (id := c0) (k := 11) (lim_F0_11 hc0)
            have kr_18 : gr σ5 c0 9 = some 50 := (FX_r cσ5 (show ¬ (c0 = c0 + 1) from by first | omega | (have ugc0 := un gc0; omega)) (show ¬ ((c0 = c0 ∧ 9 = 4) ∨ (c0 = c0 ∧ 9 = 11)) from by first | omega | (have ugc0 := un gc0; omega))).trans kr_11
            refine ⟨?_, ?_⟩
            · intro q_19
              have b_20 : ¬ r6.toInt = 0 := fun h9 => q_19 (Int32.toInt_inj.mp h9)
              have z_21 : (-3 : Int32).toInt = -3 := rfl
              refine k_X2_writes hc0 lc0 mσ5  (by omega) (by omega) (fun σ8 mσ8 cσ8 => ?_)
              have fσ8 : FX (fun id => id = c0 + 1) (fun id k => (id = c0 ∧ k = 4) ∨ (id = c0 ∧ k = 11)) σ0 σ8 := FX_tr fσ5 cσ8 (fun x (h9 : x = c0 + 1) => (show x = c0 + 1 from h9)) (fun x k (h9 : (x = c0 ∧ k = 4)) => (show (x = c0 + 1) ∨ ((x = c0 ∧ k = 4) ∨ (x = c0 ∧ k = 11)) from Or.inr (show (x = c0 ∧ k = 4) ∨ (x = c0 ∧ k = 11) from Or.inl (h9))))
              have k_22 : (gi σ8 c0 10).toInt = (gi σ5 c0 10).toInt := congrArg Int32.toInt (FX_i cσ8 (show ¬ (c0 = c0 + 1) from by first | omega | (have ugc0 := un gc0; omega)) (show ¬ ((c0 = c0 ∧ 10 = 4)) from by first | omega | (have ugc0 := un gc0; omega)))
              have k_23 : (gi σ8 c0 11).toInt = (gi σ5 c0 11).toInt := congrArg Int32.toInt (FX_i cσ8 (show ¬ (c0 = c0 + 1) from by first | omega | (have ugc0 := un gc0; omega)) (show ¬ ((c0 = c0 ∧ 11 = 4)) from by first | omega | (have ugc0 := un gc0; omega)))
              have kr_24 : gr σ8 c0 9 = some 50 := (FX_r cσ8 (show ¬ (c0 = c0 + 1) from by first | omega | (have ugc0 := un gc0; omega)) (show ¬ ((c0 = c0 ∧ 9 = 4)) from by first | omega | (have ugc0 := un gc0; omega))).trans kr_18
              intro v9 ev9
              have t_25 : (x2 + (1 : Int32)).toInt = x2.toInt + 1 := i_add (x := x2) (y := (1 : Int32)) (by show (_ : Int) ≤ x2.toInt + 1; omega) (by show x2.toInt + 1 ≤ (_ : Int); omega)
              have t_26 : v9.toInt = (x2 + (1 : Int32)).toInt := congrArg Int32.toInt ev9
              exact ih12 x1 v9 σ8 mσ8 fσ8 (by omega) (by omega) (by omega) (by omega) (by omega)
            · intro q_19
              have b_27 : r6.toInt = 0 := congrArg Int32.toInt q_19
              have z_28 : (0 : Int32).toInt = 0 := rfl
              exact h9ret (0 : Int32) σ5 mσ5 fσ5 (by omega) (by omega)
  have U12 := T 200
  have f0 : FX (fun id => id = c0 + 1) (fun id k => (id = c0 ∧ k = 4) ∨ (id = c0 ∧ k = 11)) σ0 σ0 := FX_rf
  have t_29 := XI_c1 m0 (id := c0) (k := 10) (lim_F0_10 hc0)
  have t_30 := XI_c1 m0 (id := c0) (k := 11) (lim_F0_11 hc0)
  refine s_X2_readsEither_r1_0 C hN hc0 lc0 ?_
  refine k_X2_readsBoth_r1 hc0 lc0 m0  (by omega) (by omega) (by first | with_reducible assumption | with_reducible rfl | omega | assumption | rfl) (fun r2 σ1 mσ1 cσ1 plσ1 phσ1 => ?_)
  have fσ1 : FX (fun id => id = c0 + 1) (fun id k => (id = c0 ∧ k = 4) ∨ (id = c0 ∧ k = 11)) σ0 σ1 := FX_tr f0 cσ1 (fun x (h9 : x = c0 + 1) => (show x = c0 + 1 from h9)) (fun x k (h9 : (x = c0 ∧ k = 4) ∨ (x = c0 ∧ k = 11)) => (show (x = c0 + 1) ∨ ((x = c0 ∧ k = 4) ∨ (x = c0 ∧ k = 11)) from h9.elim (fun e9 => Or.inr (show (x = c0 ∧ k = 4) ∨ (x = c0 ∧ k = 11) from Or.inl (e9))) (fun h9 => Or.inr (show (x = c0 ∧ k = 4) ∨ (x = c0 ∧ k = 11) from Or.inr (h9)))))
  have k_31 : (gi σ1 c0 10).toInt = (gi σ0 c0 10).toInt := congrArg Int32.toInt (FX_i cσ1 (show ¬ (c0 = c0 + 1) from by first | omega | (have ugc0 := un gc0; omega)) (show ¬ ((c0 = c0 ∧ 10 = 4) ∨ (c0 = c0 ∧ 10 = 11)) from by first | omega | (have ugc0 := un gc0; omega)))
  have t_32 := XI_c1 mσ1 (id := c0) (k := 11) (lim_F0_11 hc0)
  have kr_33 : gr σ1 c0 9 = some 50 := (FX_r cσ1 (show ¬ (c0 = c0 + 1) from by first | omega | (have ugc0 := un gc0; omega)) (show ¬ ((c0 = c0 ∧ 9 = 4) ∨ (c0 = c0 ∧ 9 = 11)) from by first | omega | (have ugc0 := un gc0; omega))).trans pre0
  refine ⟨?_, ?_⟩
  · intro q_34
    have b_35 : ¬ r2.toInt = 0 := fun h9 => q_34 (Int32.toInt_inj.mp h9)
    have z_36 : (0 : Int32).toInt = 0 := rfl
    exact U12 a1 (0 : Int32) σ1 mσ1 fσ1 (by omega) (by omega) (by omega) (by omega) (by omega)
  · intro q_34
    have b_37 : r2.toInt = 0 := congrArg Int32.toInt q_34
    have z_38 : (0 : Int32).toInt = 0 := rfl
    exact h9ret (0 : Int32) σ1 mσ1 fσ1 (by omega) (by omega)
set_option maxRecDepth 100000 in
set_option maxHeartbeats 4000000 in
theorem k_X2_readsPart_r0 {l : Launch} {V : Vx} {c0 : Nat} {a1 : Int32} {σ0 : Sg} {Qk : Int32 → Sg → Prop} (hc0 : kd c0 = (12, 0)) (lc0 : c0 ∈ ids (V)) (m0 : XI V σ0) (l_a1 : 0 ≤ a1.toInt) (u_a1 : a1.toInt ≤ 0) (pre0 : gr σ0 c0 9 = some 50) (h9ret : ∀ (r : Int32) (σ' : Sg), XI V σ' → FX (fun id => id = c0 + 1) (fun id k => (id = c0 ∧ k = 4) ∨ (id = c0 ∧ k = 11)) σ0 σ' → (0 ≤ r.toInt) → (r.toInt ≤ 1) → Qk r σ') : K_X2_readsPart_r0 l V c0 a1 σ0 Qk := by
  refine e_X2_readsPart_r0 (fun M hl hV hN C => ?_)
  subst hl
  subst hV
  have gc0 : hid _ := kdF_ge hc0
  have T : ∀ n : Nat, (∀ (x1 : Int32) (σ : Sg), XI (mV M) σ → FX (fun id => id = c0 + 1) (fun id k => (id = c0 ∧ k = 4) ∨ (id = c0 ∧ k = 11)) σ0 σ → (0 ≤ x1.toInt) → (x1.toInt ≤ 0) → 1 < n → PS M 33 [(0, .ref c0), (1, .int x1)] [] σ (0, 0)) := by
    intro n
    induction n with
    | zero => exact fun _ _ _ _ _ _ h8 => absurd h8 (Nat.not_lt_zero _)
    | succ n ih =>
      have ih33 := ih
      · intro x1 σ mσ fσ lx1 ux1 hmu
        have kr_c0_9 : gr σ c0 9 = some 50 := (FX_r fσ (show ¬ (c0 = c0 + 1) from by first | omega | (have ugc0 := un gc0; omega)) (show ¬ ((c0 = c0 ∧ 9 = 4) ∨ (c0 = c0 ∧ 9 = 11)) from by first | omega | (have ugc0 := un gc0; omega))).trans pre0
        have k_1 : (gi σ c0 10).toInt = (gi σ0 c0 10).toInt := congrArg Int32.toInt (FX_i fσ (show ¬ (c0 = c0 + 1) from by first | omega | (have ugc0 := un gc0; omega)) (show ¬ ((c0 = c0 ∧ 10 = 4) ∨ (c0 = c0 ∧ 10 = 11)) from by first | omega | (have ugc0 := un gc0; omega)))
        have t_2 := XI_c1 mσ (id := c0) (k := 10) (lim_F0_10 hc0)
        have t_3 := XI_c1 mσ (id := c0) (k := 11) (lim_F0_11 hc0)
        refine s_X2_readsPart_r0_33 C hN hc0 lc0 ?_
        refine ⟨?_, ?_⟩
        · intro q_4
          have b_5 : (4 : Int) ≤ x1.toInt := Int32.le_iff_toInt_le.mp q_4
          refine k_X2_readsTest hc0 lc0 mσ  (by first | with_reducible assumption | with_reducible rfl | omega | assumption | rfl) (fun r3 σ2 mσ2 cσ2 plσ2 phσ2 => ?_)
          have fσ2 : FX (fun id => id = c0 + 1) (fun id k => (id = c0 ∧ k = 4) ∨ (id = c0 ∧ k = 11)) σ0 σ2 := FX_tr fσ cσ2 (fun x (h9 : x = c0 + 1) => (show x = c0 + 1 from h9)) (fun x k (h9 : (x = c0 ∧ k = 4) ∨ (x = c0 ∧ k = 11)) => (show (x = c0 + 1) ∨ ((x = c0 ∧ k = 4) ∨ (x = c0 ∧ k = 11)) from h9.elim (fun e9 => Or.inr (show (x = c0 ∧ k = 4) ∨ (x = c0 ∧ k = 11) from Or.inl (e9))) (fun h9 => Or.inr (show (x = c0 ∧ k = 4) ∨ (x = c0 ∧ k = 11) from Or.inr (h9)))))
          have k_6 : (gi σ2 c0 10).toInt = (gi σ c0 10).toInt := congrArg Int32.toInt (FX_i cσ2 (show ¬ (c0 = c0 + 1) from by first | omega | (have ugc0 := un gc0; omega)) (show ¬ ((c0 = c0 ∧ 10 = 4) ∨ (c0 = c0 ∧ 10 = 11)) from by first | omega | (have ugc0 := un gc0; omega)))
          have t_7 := XI_c1 mσ2 (id := c0) (k := 11) (lim_F0_11 hc0)
          have kr_8 : gr σ2 c0 9 = some 50 := (FX_r cσ2 (show ¬ (c0 = c0 + 1) from by first | omega | (have ugc0 := un gc0; omega)) (show ¬ ((c0 = c0 ∧ 9 = 4) ∨ (c0 = c0 ∧ 9 = 11)) from by first | omega | (have ugc0 := un gc0; omega))).trans kr_c0_9
          refine ⟨i_bool (by omega) (by omega), ?_⟩
          exact h9ret r3 σ2 mσ2 fσ2 (by omega) (by omega)
        · intro q_4
          have b_9 : ¬ (4 : Int) ≤ x1.toInt := fun h9 => q_4 (Int32.le_iff_toInt_le.mpr h9)
          have z_10 : (40 : Int32).toInt = 40 := rfl
          refine k_X2_takes hc0 lc0 mσ  (by omega) (by omega) (by first | with_reducible assumption | with_reducible rfl | omega | assumption | rfl) (fun r5 σ4 mσ4 cσ4 plσ4 phσ4 => ?_)
          have fσ4 : FX (fun id => id = c0 + 1) (fun id k => (id = c0 ∧ k = 4) ∨ (id = c0 ∧ k = 11)) σ0 σ4 := FX_tr fσ cσ4 (fun _ h9 => h9.elim) (fun x k (h9 : (x = c0 ∧ k = 11)) => (show (x = c0 + 1) ∨ ((x = c0 ∧ k = 4) ∨ (x = c0 ∧ k = 11)) from Or.inr (show (x = c0 ∧ k = 4) ∨ (x = c0 ∧ k = 11) from Or.inr (h9))))
          have k_11 : (gi σ4 c0 10).toInt = (gi σ c0 10).toInt := congrArg Int32.toInt (FX_i cσ4 id (show ¬ ((c0 = c0 ∧ 10 = 11)) from by first | omega | (have ugc0 := un gc0; omega)))
          have t_12 := XI_c1 mσ4 (id := c0) (k := 11) (lim_F0_11 hc0)
          have kr_13 : gr σ4 c0 9 = some 50 := (FX_r cσ4 id (show ¬ ((c0 = c0 ∧ 9 = 11)) from by first | omega | (have ugc0 := un gc0; omega))).trans kr_c0_9
          refine ⟨?_, ?_⟩
          · intro q_14
            have b_15 : r5.toInt = 0 := congrArg Int32.toInt q_14
            refine k_X2_readsTest hc0 lc0 mσ4  (by first | with_reducible assumption | with_reducible rfl | omega | assumption | rfl) (fun r8 σ7 mσ7 cσ7 plσ7 phσ7 => ?_)
            have fσ7 : FX (fun id => id = c0 + 1) (fun id k => (id = c0 ∧ k = 4) ∨ (id = c0 ∧ k = 11)) σ0 σ7 := FX_tr fσ4 cσ7 (fun x (h9 : x = c0 + 1) => (show x = c0 + 1 from h9)) (fun x k (h9 : (x = c0 ∧ k = 4) ∨ (x = c0 ∧ k = 11)) => (show (x = c0 + 1) ∨ ((x = c0 ∧ k = 4) ∨ (x = c0 ∧ k = 11)) from h9.elim (fun e9 => Or.inr (show (x = c0 ∧ k = 4) ∨ (x = c0 ∧ k = 11) from Or.inl (e9))) (fun h9 => Or.inr (show (x = c0 ∧ k = 4) ∨ (x = c0 ∧ k = 11) from Or.inr (h9)))))
            have k_16 : (gi σ7 c0 10).toInt = (gi σ4 c0 10).toInt := congrArg Int32.toInt (FX_i cσ7 (show ¬ (c0 = c0 + 1) from by first | omega | (have ugc0 := un gc0; omega)) (show ¬ ((c0 = c0 ∧ 10 = 4) ∨ (c0 = c0 ∧ 10 = 11)) from by first | omega | (have ugc0 := un gc0; omega)))
            have t_17 := XI_c1 mσ7 (id := c0) (k := 11) (lim_F0_11 hc0)
            have kr_18 : gr σ7 c0 9 = some 50 := (FX_r cσ7 (show ¬ (c0 = c0 + 1) from by first | omega | (have ugc0 := un gc0; omega)) (show ¬ ((c0 = c0 ∧ 9 = 4) ∨ (c0 = c0 ∧ 9 = 11)) from by first | omega | (have ugc0 := un gc0; omega))).trans kr_13
            refine ⟨i_bool (by omega) (by omega), ?_⟩
            exact h9ret r8 σ7 mσ7 fσ7 (by omega) (by omega)
          · intro q_14
            have b_19 : ¬ r5.toInt = 0 := fun h9 => q_14 (Int32.toInt_inj.mp h9)
            have t_20 : (x1 + (1 : Int32)).toInt = x1.toInt + 1 := i_add (x := x1) (y := (1 : Int32)) (by show (_ : Int) ≤ x1.toInt + 1; omega) (by show x1.toInt + 1 ≤ (_ : Int); omega)
            refine k_X2_readsEither_r1 hc0 lc0 mσ4  (by omega) (by omega) (by first | with_reducible assumption | with_reducible rfl | omega | assumption | rfl) (fun r10 σ9 mσ9 cσ9 plσ9 phσ9 => ?_)
            have fσ9 : FX (fun id => id = c0 + 1) (fun id k => (id = c0 ∧ k = 4) ∨ (id = c0 ∧ k = 11)) σ0 σ9 := FX_tr fσ4 cσ9 (fun x (h9 : x = c0 + 1) => (show x = c0 + 1 from h9)) (fun x k (h9 : (x = c0 ∧ k = 4) ∨ (x = c0 ∧ k = 11)) => (show (x = c0 + 1) ∨ ((x = c0 ∧ k = 4) ∨ (x = c0 ∧ k = 11)) from h9.elim (fun e9 => Or.inr (show (x = c0 ∧ k = 4) ∨ (x = c0 ∧ k = 11) from Or.inl (e9))) (fun h9 => Or.inr (show (x = c0 ∧ k = 4) ∨ (x = c0 ∧ k = 11) from Or.inr (h9)))))
            have k_21 : (gi σ9 c0 10).toInt = (gi σ4 c0 10).toInt := congrArg Int32.toInt (FX_i cσ9 (show ¬ (c0 = c0 + 1) from by first | omega | (have ugc0 := un gc0; omega)) (show ¬ ((c0 = c0 ∧ 10 = 4) ∨ (c0 = c0 ∧ 10 = 11)) from by first | omega | (have ugc0 := un gc0; omega)))
            have t_22 := XI_c1 mσ9 (id := c0) (k := 11) (lim_F0_11 hc0)
            have kr_23 : gr σ9 c0 9 = some 50 := (FX_r cσ9 (show ¬ (c0 = c0 + 1) from by first | omega | (have ugc0 := un gc0; omega)) (show ¬ ((c0 = c0 ∧ 9 = 4) ∨ (c0 = c0 ∧ 9 = 11)) from by first | omega | (have ugc0 := un gc0; omega))).trans kr_13
            refine ⟨?_, ?_⟩
            · intro q_24
              have b_25 : r10.toInt = 0 := congrArg Int32.toInt q_24
              have z_26 : (0 : Int32).toInt = 0 := rfl
              exact h9ret (0 : Int32) σ9 mσ9 fσ9 (by omega) (by omega)
            · intro q_24
              have b_27 : ¬ r10.toInt = 0 := fun h9 => q_24 (Int32.toInt_inj.mp h9)
              have z_28 : (41 : Int32).toInt = 41 := rfl
              refine k_X2_takes hc0 lc0 mσ9  (by omega) (by omega) (by first | with_reducible assumption | with_reducible rfl | omega | assumption | rfl) (fun r13 σ12 mσ12 cσ12 plσ12 phσ12 => ?_)
              have fσ12 : FX (fun id => id = c0 + 1) (fun id k => (id = c0 ∧ k = 4) ∨ (id = c0 ∧ k = 11)) σ0 σ12 := FX_tr fσ9 cσ12 (fun _ h9 => h9.elim) (fun x k (h9 : (x = c0 ∧ k = 11)) => (show (x = c0 + 1) ∨ ((x = c0 ∧ k = 4) ∨ (x = c0 ∧ k = 11)) from Or.inr (show (x = c0 ∧ k = 4) ∨ (x = c0 ∧ k = 11) from Or.inr (h9))))
              have k_29 : (gi σ12 c0 10).toInt = (gi σ9 c0 10).toInt := congrArg Int32.toInt (FX_i cσ12 id (show ¬ ((c0 = c0 ∧ 10 = 11)) from by first | omega | (have ugc0 := un gc0; omega)))
              have t_30 := XI_c1 mσ12 (id := c0) (k := 11) (lim_F0_11 hc0)
              have kr_31 : gr σ12 c0 9 = some 50 := (FX_r cσ12 id (show ¬ ((c0 = c0 ∧ 9 = 11)) from by first | omega | (have ugc0 := un gc0; omega))).trans kr_23
              refine ⟨?_, ?_⟩
              · intro q_32
                have b_33 : r13.toInt = 0 := congrArg Int32.toInt q_32
                have z_34 : (0 : Int32).toInt = 0 := rfl
                exact h9ret (0 : Int32) σ12 mσ12 fσ12 (by omega) (by omega)
              · intro q_32
                have b_35 : ¬ r13.toInt = 0 := fun h9 => q_32 (Int32.toInt_inj.mp h9)
                have z_36 : (1 : Int32).toInt = 1 := rfl
                exact h9ret (1 : Int32) σ12 mσ12 fσ12 (by omega) (by omega)
  have U33 := T 9
  have f0 : FX (fun id => id = c0 + 1) (fun id k => (id = c0 ∧ k = 4) ∨ (id = c0 ∧ k = 11)) σ0 σ0 := FX_rf
  have t_37 := XI_c1 m0 (id := c0) (k := 10) (lim_F0_10 hc0)
  have t_38 := XI_c1 m0 (id := c0) (k := 11) (lim_F0_11 hc0)
  refine s_X2_readsPart_r0_0 C hN hc0 lc0 ?_
  refine ⟨?_, ?_⟩
  · intro q_39
    have b_40 : (4 : Int) ≤ a1.toInt := Int32.le_iff_toInt_le.mp q_39
    exact U33 a1 σ0 m0 f0 (by omega) (by omega) (by omega)
  · intro q_39
    have b_41 : ¬ (4 : Int) ≤ a1.toInt := fun h9 => q_39 (Int32.le_iff_toInt_le.mpr h9)
    have z_42 : (33 : Int32).toInt = 33 := rfl
    refine k_X2_takes hc0 lc0 m0  (by omega) (by omega) (by first | with_reducible assumption | with_reducible rfl | omega | assumption | rfl) (fun r3 σ2 mσ2 cσ2 plσ2 phσ2 => ?_)
    have fσ2 : FX (fun id => id = c0 + 1) (fun id k => (id = c0 ∧ k = 4) ∨ (id = c0 ∧ k = 11)) σ0 σ2 := FX_tr f0 cσ2 (fun _ h9 => h9.elim) (fun x k (h9 : (x = c0 ∧ k = 11)) => (show (x = c0 + 1) ∨ ((x = c0 ∧ k = 4) ∨ (x = c0 ∧ k = 11)) from Or.inr (show (x = c0 ∧ k = 4) ∨ (x = c0 ∧ k = 11) from Or.inr (h9))))
    have k_43 : (gi σ2 c0 10).toInt = (gi σ0 c0 10).toInt := congrArg Int32.toInt (FX_i cσ2 id (show ¬ ((c0 = c0 ∧ 10 = 11)) from by first | omega | (have ugc0 := un gc0; omega)))
    have t_44 := XI_c1 mσ2 (id := c0) (k := 11) (lim_F0_11 hc0)
    have kr_45 : gr σ2 c0 9 = some 50 := (FX_r cσ2 id (show ¬ ((c0 = c0 ∧ 9 = 11)) from by first | omega | (have ugc0 := un gc0; omega))).trans pre0
    refine ⟨?_, ?_⟩
    · intro q_46
      have b_47 : r3.toInt = 0 := congrArg Int32.toInt q_46
      exact U33 a1 σ2 mσ2 fσ2 (by omega) (by omega) (by omega)
    · intro q_46
      have b_48 : ¬ r3.toInt = 0 := fun h9 => q_46 (Int32.toInt_inj.mp h9)
      have t_49 : (a1 + (1 : Int32)).toInt = a1.toInt + 1 := i_add (x := a1) (y := (1 : Int32)) (by show (_ : Int) ≤ a1.toInt + 1; omega) (by show a1.toInt + 1 ≤ (_ : Int); omega)
      refine k_X2_readsPart_r1 hc0 lc0 mσ2  (by omega) (by omega) (by first | with_reducible assumption | with_reducible rfl | omega | assumption | rfl) (fun r6 σ5 mσ5 cσ5 plσ5 phσ5 => ?_)
      have fσ5 : FX (fun id => id = c0 + 1) (fun id k => (id = c0 ∧ k = 4) ∨ (id = c0 ∧ k = 11)) σ0 σ5 := FX_tr fσ2 cσ5 (fun x (h9 : x = c0 + 1) => (show x = c0 + 1 from h9)) (fun x k (h9 : (x = c0 ∧ k = 4) ∨ (x = c0 ∧ k = 11)) => (show (x = c0 + 1) ∨ ((x = c0 ∧ k = 4) ∨ (x = c0 ∧ k = 11)) from h9.elim (fun e9 => Or.inr (show (x = c0 ∧ k = 4) ∨ (x = c0 ∧ k = 11) from Or.inl (e9))) (fun h9 => Or.inr (show (x = c0 ∧ k = 4) ∨ (x = c0 ∧ k = 11) from Or.inr (h9)))))
      have k_50 : (gi σ5 c0 10).toInt = (gi σ2 c0 10).toInt := congrArg Int32.toInt (FX_i cσ5 (show ¬ (c0 = c0 + 1) from by first | omega | (have ugc0 := un gc0; omega)) (show ¬ ((c0 = c0 ∧ 10 = 4) ∨ (c0 = c0 ∧ 10 = 11)) from by first | omega | (have ugc0 := un gc0; omega)))
      have t_51 := XI_c1 mσ5 (id := c0) (k := 11) (lim_F0_11 hc0)
      have kr_52 : gr σ5 c0 9 = some 50 := (FX_r cσ5 (show ¬ (c0 = c0 + 1) from by first | omega | (have ugc0 := un gc0; omega)) (show ¬ ((c0 = c0 ∧ 9 = 4) ∨ (c0 = c0 ∧ 9 = 11)) from by first | omega | (have ugc0 := un gc0; omega))).trans kr_45
      refine ⟨?_, ?_⟩
      · intro q_53
        have b_54 : ¬ r6.toInt = 0 := fun h9 => q_53 (Int32.toInt_inj.mp h9)
        have z_55 : (-1 : Int32).toInt = -1 := rfl
        refine k_X2_writes hc0 lc0 mσ5  (by omega) (by omega) (fun σ8 mσ8 cσ8 => ?_)
        have fσ8 : FX (fun id => id = c0 + 1) (fun id k => (id = c0 ∧ k = 4) ∨ (id = c0 ∧ k = 11)) σ0 σ8 := FX_tr fσ5 cσ8 (fun x (h9 : x = c0 + 1) => (show x = c0 + 1 from h9)) (fun x k (h9 : (x = c0 ∧ k = 4)) => (show (x = c0 + 1) ∨ ((x = c0 ∧ k = 4) ∨ (x = c0 ∧ k = 11)) from Or.inr (show (x = c0 ∧ k = 4) ∨ (x = c0 ∧ k = 11) from Or.inl (h9))))
        have k_56 : (gi σ8 c0 10).toInt = (gi σ5 c0 10).toInt := congrArg Int32.toInt (FX_i cσ8 (show ¬ (c0 = c0 + 1) from by first | omega | (have ugc0 := un gc0; omega)) (show ¬ ((c0 = c0 ∧ 10 = 4)) from by first | omega | (have ugc0 := un gc0; omega)))
        have k_57 : (gi σ8 c0 11).toInt = (gi σ5 c0 11).toInt := congrArg Int32.toInt (FX_i cσ8 (show ¬ (c0 = c0 + 1) from by first | omega | (have ugc0 := un gc0; omega)) (show ¬ ((c0 = c0 ∧ 11 = 4)) from by first | omega | (have ugc0 := un gc0; omega)))
        have kr_58 : gr σ8 c0 9 = some 50 := (FX_r cσ8 (show ¬ (c0 = c0 + 1) from by first | omega | (have ugc0 := un gc0; omega)) (show ¬ ((c0 = c0 ∧ 9 = 4)) from by first | omega | (have ugc0 := un gc0; omega))).trans kr_52
        have z_59 : (1 : Int32).toInt = 1 := rfl
        exact h9ret (1 : Int32) σ8 mσ8 fσ8 (by omega) (by omega)
      · intro q_53
        have b_60 : r6.toInt = 0 := congrArg Int32.toInt q_53
        have z_61 : (0 : Int32).toInt = 0 := rfl
        exact h9ret (0 : Int32) σ5 mσ5 fσ5 (by omega) (by omega)
set_option maxRecDepth 100000 in
set_option maxHeartbeats 4000000 in
theorem k_X2_readsBoth_r0 {l : Launch} {V : Vx} {c0 : Nat} {a1 : Int32} {σ0 : Sg} {Qk : Int32 → Sg → Prop} (hc0 : kd c0 = (12, 0)) (lc0 : c0 ∈ ids (V)) (m0 : XI V σ0) (l_a1 : 0 ≤ a1.toInt) (u_a1 : a1.toInt ≤ 0) (pre0 : gr σ0 c0 9 = some 50) (h9ret : ∀ (r : Int32) (σ' : Sg), XI V σ' → FX (fun id => id = c0 + 1) (fun id k => (id = c0 ∧ k = 4) ∨ (id = c0 ∧ k = 11)) σ0 σ' → (0 ≤ r.toInt) → (r.toInt ≤ 1) → Qk r σ') : K_X2_readsBoth_r0 l V c0 a1 σ0 Qk := by
  refine e_X2_readsBoth_r0 (fun M hl hV hN C => ?_)
  subst hl
  subst hV
  have gc0 : hid _ := kdF_ge hc0
  have T : ∀ n : Nat, (∀ (x1 : Int32) (x2 : Int32) (σ : Sg), XI (mV M) σ → FX (fun id => id = c0 + 1) (fun id k => (id = c0 ∧ k = 4) ∨ (id = c0 ∧ k = 11)) σ0 σ → (0 ≤ x1.toInt) → (x1.toInt ≤ 0) → (0 ≤ x2.toInt) → (x2.toInt ≤ 100) → (101 - x2.toInt).toNat < n → PS M 12 [(0, .ref c0), (1, .int x1), (2, .int x2)] [] σ (0, 0)) := by
    intro n
    induction n with
    | zero => exact fun _ _ _ _ _ _ _ _ _ h8 => absurd h8 (Nat.not_lt_zero _)
    | succ n ih =>
      have ih12 := ih
      · intro x1 x2 σ mσ fσ lx1 ux1 lx2 ux2 hmu
        have kr_c0_9 : gr σ c0 9 = some 50 := (FX_r fσ (show ¬ (c0 = c0 + 1) from by first | omega | (have ugc0 := un gc0; omega)) (show ¬ ((c0 = c0 ∧ 9 = 4) ∨ (c0 = c0 ∧ 9 = 11)) from by first | omega | (have ugc0 := un gc0; omega))).trans pre0
        have k_1 : (gi σ c0 10).toInt = (gi σ0 c0 10).toInt := congrArg Int32.toInt (FX_i fσ (show ¬ (c0 = c0 + 1) from by first | omega | (have ugc0 := un gc0; omega)) (show ¬ ((c0 = c0 ∧ 10 = 4) ∨ (c0 = c0 ∧ 10 = 11)) from by first | omega | (have ugc0 := un gc0; omega)))
        have t_2 := XI_c1 mσ (id := c0) (k := 10) (lim_F0_10 hc0)
        have t_3 := XI_c1 mσ (id := c0) (k := 11) (lim_F0_11 hc0)
        refine s_X2_readsBoth_r0_12 C hN hc0 lc0 ?_
        refine ⟨?_, ?_⟩
        · intro q_4
          have b_5 : (100 : Int) ≤ x2.toInt := Int32.le_iff_toInt_le.mp q_4
          have z_6 : (1 : Int32).toInt = 1 := rfl
          exact h9ret (1 : Int32) σ mσ fσ (by omega) (by omega)
        · intro q_4
          have b_7 : ¬ (100 : Int) ≤ x2.toInt := fun h9 => q_4 (Int32.le_iff_toInt_le.mpr h9)
          have z_8 : (38 : Int32).toInt = 38 := rfl
          refine k_X2_takes hc0 lc0 mσ  (by omega) (by omega) (by first | with_reducible assumption | with_reducible rfl | omega | assumption | rfl) (fun r3 σ2 mσ2 cσ2 plσ2 phσ2 => ?_)
          have fσ2 : FX (fun id => id = c0 + 1) (fun id k => (id = c0 ∧ k = 4) ∨ (id = c0 ∧ k = 11)) σ0 σ2 := FX_tr fσ cσ2 (fun _ h9 => h9.elim) (fun x k (h9 : (x = c0 ∧ k = 11)) => (show (x = c0 + 1) ∨ ((x = c0 ∧ k = 4) ∨ (x = c0 ∧ k = 11)) from Or.inr (show (x = c0 ∧ k = 4) ∨ (x = c0 ∧ k = 11) from Or.inr (h9))))
          have k_9 : (gi σ2 c0 10).toInt = (gi σ c0 10).toInt := congrArg Int32.toInt (FX_i cσ2 id (show ¬ ((c0 = c0 ∧ 10 = 11)) from by first | omega | (have ugc0 := un gc0; omega)))
          have t_10 := XI_c1 mσ2 (id := c0) (k := 11) (lim_F0_11 hc0)
          have kr_11 : gr σ2 c0 9 = some 50 := (FX_r cσ2 id (show ¬ ((c0 = c0 ∧ 9 = 11)) from by first | omega | (have ugc0 := un gc0; omega))).trans kr_c0_9
          refine ⟨?_, ?_⟩
          · intro q_12
            have b_13 : r3.toInt = 0 := congrArg Int32.toInt q_12
            have z_14 : (1 : Int32).toInt = 1 := rfl
            exact h9ret (1 : Int32) σ2 mσ2 fσ2 (by omega) (by omega)
          · intro q_12
            have b_15 : ¬ r3.toInt = 0 := fun h9 => q_12 (Int32.toInt_inj.mp h9)
            refine k_X2_readsPart_r0 hc0 lc0 mσ2  (by omega) (by omega) (by first | with_reducible assumption | with_reducible rfl | omega | assumption | rfl) (fun r6 σ5 mσ5 cσ5 plσ5 phσ5 => ?_)
            have fσ5 : FX (fun id => id = c0 + 1) (fun id k => (id = c0 ∧ k = 4) ∨ (id = c0 ∧ k = 11)) σ0 σ5 := FX_tr fσ2 cσ5 (fun x (h9 : x = c0 + 1) => (show x = c0 + 1 from h9)) (fun x k (h9 : (x = c0 ∧ k = 4) ∨ (x = c0 ∧ k = 11)) => (show (x = c0 + 1) ∨ ((x = c0 ∧ k = 4) ∨ (x = c0 ∧ k = 11)) from h9.elim (fun e9 => Or.inr (show (x = c0 ∧ k = 4) ∨ (x = c0 ∧ k = 11) from Or.inl (e9))) (fun h9 => Or.inr (show (x = c0 ∧ k = 4) ∨ (x = c0 ∧ k = 11) from Or.inr (h9)))))
            have k_16 : (gi σ5 c0 10).toInt = (gi σ2 c0 10).toInt := congrArg Int32.toInt (FX_i cσ5 (show ¬ (c0 = c0 + 1) from by first | omega | (have ugc0 := un gc0; omega)) (show ¬ ((c0 = c0 ∧ 10 = 4) ∨ (c0 = c0 ∧ 10 = 11)) from by first | omega | (have ugc0 := un gc0; omega)))
            have t_17 := XI_c1 mσ5 (id := c0) (k := 11) (lim_F0_11 hc0)
            have kr_18 : gr σ5 c0 9 = some 50 := (FX_r cσ5 (show ¬ (c0 = c0 + 1) from by first | omega | (have ugc0 := un gc0; omega)) (show ¬ ((c0 = c0 ∧ 9 = 4) ∨ (c0 = c0 ∧ 9 = 11)) from by first | omega | (have ugc0 := un gc0; omega))).trans kr_11
            refine ⟨?_, ?_⟩
            · intro q_19
              have b_20 : ¬ r6.toInt = 0 := fun h9 => q_19 (Int32.toInt_inj.mp h9)
              have z_21 : (-2 : Int32).toInt = -2 := rfl
              refine k_X2_writes hc0 lc0 mσ5  (by omega) (by omega) (fun σ8 mσ8 cσ8 => ?_)
              have fσ8 : FX (fun id => id = c0 + 1) (fun id k => (id = c0 ∧ k = 4) ∨ (id = c0 ∧ k = 11)) σ0 σ8 := FX_tr fσ5 cσ8 (fun x (h9 : x = c0 + 1) => (show x = c0 + 1 from h9)) (fun x k (h9 : (x = c0 ∧ k = 4)) => (show (x = c0 + 1) ∨ ((x = c0 ∧ k = 4) ∨ (x = c0 ∧ k = 11)) from Or.inr (show (x = c0 ∧ k = 4) ∨ (x = c0 ∧ k = 11) from Or.inl (h9))))
              have k_22 : (gi σ8 c0 10).toInt = (gi σ5 c0 10).toInt := congrArg Int32.toInt (FX_i cσ8 (show ¬ (c0 = c0 + 1) from by first | omega | (have ugc0 := un gc0; omega)) (show ¬ ((c0 = c0 ∧ 10 = 4)) from by first | omega | (have ugc0 := un gc0; omega)))
              have k_23 : (gi σ8 c0 11).toInt = (gi σ5 c0 11).toInt := congrArg Int32.toInt (FX_i cσ8 (show ¬ (c0 = c0 + 1) from by first | omega | (have ugc0 := un gc0; omega)) (show ¬ ((c0 = c0 ∧ 11 = 4)) from by first | omega | (have ugc0 := un gc0; omega)))
              have kr_24 : gr σ8 c0 9 = some 50 := (FX_r cσ8 (show ¬ (c0 = c0 + 1) from by first | omega | (have ugc0 := un gc0; omega)) (show ¬ ((c0 = c0 ∧ 9 = 4)) from by first | omega | (have ugc0 := un gc0; omega))).trans kr_18
              intro v9 ev9
              have t_25 : (x2 + (1 : Int32)).toInt = x2.toInt + 1 := i_add (x := x2) (y := (1 : Int32)) (by show (_ : Int) ≤ x2.toInt + 1; omega) (by show x2.toInt + 1 ≤ (_ : Int); omega)
              have t_26 : v9.toInt = (x2 + (1 : Int32)).toInt := congrArg Int32.toInt ev9
              exact ih12 x1 v9 σ8 mσ8 fσ8 (by omega) (by omega) (by omega) (by omega) (by omega)
            · intro q_19
              have b_27 : r6.toInt = 0 := congrArg Int32.toInt q_19
              have z_28 : (0 : Int32).toInt = 0 := rfl
              exact h9ret (0 : Int32) σ5 mσ5 fσ5 (by omega) (by omega)
  have U12 := T 200
  have f0 : FX (fun id => id = c0 + 1) (fun id k => (id = c0 ∧ k = 4) ∨ (id = c0 ∧ k = 11)) σ0 σ0 := FX_rf
  have t_29 := XI_c1 m0 (id := c0) (k := 10) (lim_F0_10 hc0)
  have t_30 := XI_c1 m0 (id := c0) (k := 11) (lim_F0_11 hc0)
  refine s_X2_readsBoth_r0_0 C hN hc0 lc0 ?_
  refine k_X2_readsPart_r0 hc0 lc0 m0  (by omega) (by omega) (by first | with_reducible assumption | with_reducible rfl | omega | assumption | rfl) (fun r2 σ1 mσ1 cσ1 plσ1 phσ1 => ?_)
  have fσ1 : FX (fun id => id = c0 + 1) (fun id k => (id = c0 ∧ k = 4) ∨ (id = c0 ∧ k = 11)) σ0 σ1 := FX_tr f0 cσ1 (fun x (h9 : x = c0 + 1) => (show x = c0 + 1 from h9)) (fun x k (h9 : (x = c0 ∧ k = 4) ∨ (x = c0 ∧ k = 11)) => (show (x = c0 + 1) ∨ ((x = c0 ∧ k = 4) ∨ (x = c0 ∧ k = 11)) from h9.elim (fun e9 => Or.inr (show (x = c0 ∧ k = 4) ∨ (x = c0 ∧ k = 11) from Or.inl (e9))) (fun h9 => Or.inr (show (x = c0 ∧ k = 4) ∨ (x = c0 ∧ k = 11) from Or.inr (h9)))))
  have k_31 : (gi σ1 c0 10).toInt = (gi σ0 c0 10).toInt := congrArg Int32.toInt (FX_i cσ1 (show ¬ (c0 = c0 + 1) from by first | omega | (have ugc0 := un gc0; omega)) (show ¬ ((c0 = c0 ∧ 10 = 4) ∨ (c0 = c0 ∧ 10 = 11)) from by first | omega | (have ugc0 := un gc0; omega)))
  have t_32 := XI_c1 mσ1 (id := c0) (k := 11) (lim_F0_11 hc0)
  have kr_33 : gr σ1 c0 9 = some 50 := (FX_r cσ1 (show ¬ (c0 = c0 + 1) from by first | omega | (have ugc0 := un gc0; omega)) (show ¬ ((c0 = c0 ∧ 9 = 4) ∨ (c0 = c0 ∧ 9 = 11)) from by first | omega | (have ugc0 := un gc0; omega))).trans pre0
  refine ⟨?_, ?_⟩
  · intro q_34
    have b_35 : ¬ r2.toInt = 0 := fun h9 => q_34 (Int32.toInt_inj.mp h9)
    have z_36 : (0 : Int32).toInt = 0 := rfl
    exact U12 a1 (0 : Int32) σ1 mσ1 fσ1 (by omega) (by omega) (by omega) (by omega) (by omega)
  · intro q_34
    have b_37 : r2.toInt = 0 := congrArg Int32.toInt q_34
    have z_38 : (0 : Int32).toInt = 0 := rfl
    exact h9ret (0 : Int32) σ1 mσ1 fσ1 (by omega) (by omega)
set_option maxRecDepth 100000 in
set_option maxHeartbeats 4000000 in
theorem k_X2_readsEither_r0 {l : Launch} {V : Vx} {c0 : Nat} {a1 : Int32} {σ0 : Sg} {Qk : Int32 → Sg → Prop} (hc0 : kd c0 = (12, 0)) (lc0 : c0 ∈ ids (V)) (m0 : XI V σ0) (l_a1 : 0 ≤ a1.toInt) (u_a1 : a1.toInt ≤ 0) (pre0 : gr σ0 c0 9 = some 50) (h9ret : ∀ (r : Int32) (σ' : Sg), XI V σ' → FX (fun id => id = c0 + 1) (fun id k => (id = c0 ∧ k = 4) ∨ (id = c0 ∧ k = 11)) σ0 σ' → (0 ≤ r.toInt) → (r.toInt ≤ 1) → Qk r σ') : K_X2_readsEither_r0 l V c0 a1 σ0 Qk := by
  refine e_X2_readsEither_r0 (fun M hl hV hN C => ?_)
  subst hl
  subst hV
  have gc0 : hid _ := kdF_ge hc0
  have T : ∀ n : Nat, (∀ (x1 : Int32) (x2 : Int32) (σ : Sg), XI (mV M) σ → FX (fun id => id = c0 + 1) (fun id k => (id = c0 ∧ k = 4) ∨ (id = c0 ∧ k = 11)) σ0 σ → (0 ≤ x1.toInt) → (x1.toInt ≤ 0) → (0 ≤ x2.toInt) → (x2.toInt ≤ 100) → (101 - x2.toInt).toNat < n → PS M 12 [(0, .ref c0), (1, .int x1), (2, .int x2)] [] σ (0, 0)) := by
    intro n
    induction n with
    | zero => exact fun _ _ _ _ _ _ _ _ _ h8 => absurd h8 (Nat.not_lt_zero _)
    | succ n ih =>
      have ih12 := ih
      · intro x1 x2 σ mσ fσ lx1 ux1 lx2 ux2 hmu
        have kr_c0_9 : gr σ c0 9 = some 50 := (FX_r fσ (show ¬ (c0 = c0 + 1) from by first | omega | (have ugc0 := un gc0; omega)) (show ¬ ((c0 = c0 ∧ 9 = 4) ∨ (c0 = c0 ∧ 9 = 11)) from by first | omega | (have ugc0 := un gc0; omega))).trans pre0
        have k_1 : (gi σ c0 10).toInt = (gi σ0 c0 10).toInt := congrArg Int32.toInt (FX_i fσ (show ¬ (c0 = c0 + 1) from by first | omega | (have ugc0 := un gc0; omega)) (show ¬ ((c0 = c0 ∧ 10 = 4) ∨ (c0 = c0 ∧ 10 = 11)) from by first | omega | (have ugc0 := un gc0; omega)))
        have t_2 := XI_c1 mσ (id := c0) (k := 10) (lim_F0_10 hc0)
        have t_3 := XI_c1 mσ (id := c0) (k := 11) (lim_F0_11 hc0)
        refine s_X2_readsEither_r0_12 C hN hc0 lc0 ?_
        refine ⟨?_, ?_⟩
        · intro q_4
          have b_5 : (100 : Int) ≤ x2.toInt := Int32.le_iff_toInt_le.mp q_4
          have z_6 : (1 : Int32).toInt = 1 := rfl
          exact h9ret (1 : Int32) σ mσ fσ (by omega) (by omega)
        · intro q_4
          have b_7 : ¬ (100 : Int) ≤ x2.toInt := fun h9 => q_4 (Int32.le_iff_toInt_le.mpr h9)
          have z_8 : (124 : Int32).toInt = 124 := rfl
          refine k_X2_takes hc0 lc0 mσ  (by omega) (by omega) (by first | with_reducible assumption | with_reducible rfl | omega | assumption | rfl) (fun r3 σ2 mσ2 cσ2 plσ2 phσ2 => ?_)
          have fσ2 : FX (fun id => id = c0 + 1) (fun id k => (id = c0 ∧ k = 4) ∨ (id = c0 ∧ k = 11)) σ0 σ2 := FX_tr fσ cσ2 (fun _ h9 => h9.elim) (fun x k (h9 : (x = c0 ∧ k = 11)) => (show (x = c0 + 1) ∨ ((x = c0 ∧ k = 4) ∨ (x = c0 ∧ k = 11)) from Or.inr (show (x = c0 ∧ k = 4) ∨ (x = c0 ∧ k = 11) from Or.inr (h9))))
          have k_9 : (gi σ2 c0 10).toInt = (gi σ c0 10).toInt := congrArg Int32.toInt (FX_i cσ2 id (show ¬ ((c0 = c0 ∧ 10 = 11)) from by first | omega | (have ugc0 := un gc0; omega)))
          have t_10 := XI_c1 mσ2 (id := c0) (k := 11) (lim_F0_11 hc0)
          have kr_11 : gr σ2 c0 9 = some 50 := (FX_r cσ2 id (show ¬ ((c0 = c0 ∧ 9 = 11)) from by first | omega | (have ugc0 := un gc0; omega))).trans kr_c0_9
          refine ⟨?_, ?_⟩
          · intro q_12
            have b_13 : r3.toInt = 0 := congrArg Int32.toInt q_12
            have z_14 : (1 : Int32).toInt = 1 := rfl
            exact h9ret (1 : Int32) σ2 mσ2 fσ2 (by omega) (by omega)
          · intro q_12
            have b_15 : ¬ r3.toInt = 0 := fun h9 => q_12 (Int32.toInt_inj.mp h9)
            refine k_X2_readsBoth_r0 hc0 lc0 mσ2  (by omega) (by omega) (by first | with_reducible assumption | with_reducible rfl | omega | assumption | rfl) (fun r6 σ5 mσ5 cσ5 plσ5 phσ5 => ?_)
            have fσ5 : FX (fun id => id = c0 + 1) (fun id k => (id = c0 ∧ k = 4) ∨ (id = c0 ∧ k = 11)) σ0 σ5 := FX_tr fσ2 cσ5 (fun x (h9 : x = c0 + 1) => (show x = c0 + 1 from h9)) (fun x k (h9 : (x = c0 ∧ k = 4) ∨ (x = c0 ∧ k = 11)) => (show (x = c0 + 1) ∨ ((x = c0 ∧ k = 4) ∨ (x = c0 ∧ k = 11)) from h9.elim (fun e9 => Or.inr (show (x = c0 ∧ k = 4) ∨ (x = c0 ∧ k = 11) from Or.inl (e9))) (fun h9 => Or.inr (show (x = c0 ∧ k = 4) ∨ (x = c0 ∧ k = 11) from Or.inr (h9)))))
            have k_16 : (gi σ5 c0 10).toInt = (gi σ2 c0 10).toInt := congrArg Int32.toInt (FX_i cσ5 (show ¬ (c0 = c0 + 1) from by first | omega | (have ugc0 := un gc0; omega)) (show ¬ ((c0 = c0 ∧ 10 = 4) ∨ (c0 = c0 ∧ 10 = 11)) from by first | omega | (have ugc0 := un gc0; omega)))
            have t_17 := XI_c1 mσ5 (id := c0) (k := 11) (lim_F0_11 hc0)
            have kr_18 : gr σ5 c0 9 = some 50 := (FX_r cσ5 (show ¬ (c0 = c0 + 1) from by first | omega | (have ugc0 := un gc0; omega)) (show ¬ ((c0 = c0 ∧ 9 = 4) ∨ (c0 = c0 ∧ 9 = 11)) from by first | omega | (have ugc0 := un gc0; omega))).trans kr_11
            refine ⟨?_, ?_⟩
            · intro q_19
              have b_20 : ¬ r6.toInt = 0 := fun h9 => q_19 (Int32.toInt_inj.mp h9)
              have z_21 : (-3 : Int32).toInt = -3 := rfl
              refine k_X2_writes hc0 lc0 mσ5  (by omega) (by omega) (fun σ8 mσ8 cσ8 => ?_)
              have fσ8 : FX (fun id => id = c0 + 1) (fun id k => (id = c0 ∧ k = 4) ∨ (id = c0 ∧ k = 11)) σ0 σ8 := FX_tr fσ5 cσ8 (fun x (h9 : x = c0 + 1) => (show x = c0 + 1 from h9)) (fun x k (h9 : (x = c0 ∧ k = 4)) => (show (x = c0 + 1) ∨ ((x = c0 ∧ k = 4) ∨ (x = c0 ∧ k = 11)) from Or.inr (show (x = c0 ∧ k = 4) ∨ (x = c0 ∧ k = 11) from Or.inl (h9))))
              have k_22 : (gi σ8 c0 10).toInt = (gi σ5 c0 10).toInt := congrArg Int32.toInt (FX_i cσ8 (show ¬ (c0 = c0 + 1) from by first | omega | (have ugc0 := un gc0; omega)) (show ¬ ((c0 = c0 ∧ 10 = 4)) from by first | omega | (have ugc0 := un gc0; omega)))
              have k_23 : (gi σ8 c0 11).toInt = (gi σ5 c0 11).toInt := congrArg Int32.toInt (FX_i cσ8 (show ¬ (c0 = c0 + 1) from by first | omega | (have ugc0 := un gc0; omega)) (show ¬ ((c0 = c0 ∧ 11 = 4)) from by first | omega | (have ugc0 := un gc0; omega)))
              have kr_24 : gr σ8 c0 9 = some 50 := (FX_r cσ8 (show ¬ (c0 = c0 + 1) from by first | omega | (have ugc0 := un gc0; omega)) (show ¬ ((c0 = c0 ∧ 9 = 4)) from by first | omega | (have ugc0 := un gc0; omega))).trans kr_18
              intro v9 ev9
              have t_25 : (x2 + (1 : Int32)).toInt = x2.toInt + 1 := i_add (x := x2) (y := (1 : Int32)) (by show (_ : Int) ≤ x2.toInt + 1; omega) (by show x2.toInt + 1 ≤ (_ : Int); omega)
              have t_26 : v9.toInt = (x2 + (1 : Int32)).toInt := congrArg Int32.toInt ev9
              exact ih12 x1 v9 σ8 mσ8 fσ8 (by omega) (by omega) (by omega) (by omega) (by omega)
            · intro q_19
              have b_27 : r6.toInt = 0 := congrArg Int32.toInt q_19
              have z_28 : (0 : Int32).toInt = 0 := rfl
              exact h9ret (0 : Int32) σ5 mσ5 fσ5 (by omega) (by omega)
  have U12 := T 200
  have f0 : FX (fun id => id = c0 + 1) (fun id k => (id = c0 ∧ k = 4) ∨ (id = c0 ∧ k = 11)) σ0 σ0 := FX_rf
  have t_29 := XI_c1 m0 (id := c0) (k := 10) (lim_F0_10 hc0)
  have t_30 := XI_c1 m0 (id := c0) (k := 11) (lim_F0_11 hc0)
  refine s_X2_readsEither_r0_0 C hN hc0 lc0 ?_
  refine k_X2_readsBoth_r0 hc0 lc0 m0  (by omega) (by omega) (by first | with_reducible assumption | with_reducible rfl | omega | assumption | rfl) (fun r2 σ1 mσ1 cσ1 plσ1 phσ1 => ?_)
  have fσ1 : FX (fun id => id = c0 + 1) (fun id k => (id = c0 ∧ k = 4) ∨ (id = c0 ∧ k = 11)) σ0 σ1 := FX_tr f0 cσ1 (fun x (h9 : x = c0 + 1) => (show x = c0 + 1 from h9)) (fun x k (h9 : (x = c0 ∧ k = 4) ∨ (x = c0 ∧ k = 11)) => (show (x = c0 + 1) ∨ ((x = c0 ∧ k = 4) ∨ (x = c0 ∧ k = 11)) from h9.elim (fun e9 => Or.inr (show (x = c0 ∧ k = 4) ∨ (x = c0 ∧ k = 11) from Or.inl (e9))) (fun h9 => Or.inr (show (x = c0 ∧ k = 4) ∨ (x = c0 ∧ k = 11) from Or.inr (h9)))))
  have k_31 : (gi σ1 c0 10).toInt = (gi σ0 c0 10).toInt := congrArg Int32.toInt (FX_i cσ1 (show ¬ (c0 = c0 + 1) from by first | omega | (have ugc0 := un gc0; omega)) (show ¬ ((c0 = c0 ∧ 10 = 4) ∨ (c0 = c0 ∧ 10 = 11)) from by first | omega | (have ugc0 := un gc0; omega)))
  have t_32 := XI_c1 mσ1 (id := c0) (k := 11) (lim_F0_11 hc0)
  have kr_33 : gr σ1 c0 9 = some 50 := (FX_r cσ1 (show ¬ (c0 = c0 + 1) from by first | omega | (have ugc0 := un gc0; omega)) (show ¬ ((c0 = c0 ∧ 9 = 4) ∨ (c0 = c0 ∧ 9 = 11)) from by first | omega | (have ugc0 := un gc0; omega))).trans pre0
  refine ⟨?_, ?_⟩
  · intro q_34
    have b_35 : ¬ r2.toInt = 0 := fun h9 => q_34 (Int32.toInt_inj.mp h9)
    have z_36 : (0 : Int32).toInt = 0 := rfl
    exact U12 a1 (0 : Int32) σ1 mσ1 fσ1 (by omega) (by omega) (by omega) (by omega) (by omega)
  · intro q_34
    have b_37 : r2.toInt = 0 := congrArg Int32.toInt q_34
    have z_38 : (0 : Int32).toInt = 0 := rfl
    exact h9ret (0 : Int32) σ1 mσ1 fσ1 (by omega) (by omega)
