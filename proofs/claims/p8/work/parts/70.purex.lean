/-! the class's bounds: what each place of each cell may hold -/
noncomputable def fo (id : Nat) : Option Nat := if id < 69 then none else if id < 74 then some (id - 69) else if id < 1000 then none else if id < 2000 then some ((id - 1000) % 5) else none
noncomputable def limC (o k : Nat) : Option (Int × Int) :=
  if o = 0 then (if k = 1 then some (0, 6) else if k = 3 then some (0, 6) else if k = 9 then some (0, 20000) else none)
  else if o = 2 then some (0, 5)
  else if o = 8 then (if k = 1 then some (0, 18) else none)
  else if o = 10 then (if k = 1 then some (0, 10) else none)
  else if o = 12 then (if k = 1 then some (0, 8) else none)
  else if o = 9 then (if k % 3 = 0 then some (0, 5) else none)
  else if o = 13 then some (0, 5)
  else none
noncomputable def limF (o k : Nat) : Option (Int × Int) :=
  if o = 0 then (if k = 4 then some (0, 100) else if k = 8 then some (0, 10) else if k = 10 then some (0, 100) else if k = 11 then some (0, 100) else none)
  else if o = 1 then some (-3, 1799)
  else if o = 4 then some (0, 100)
  else none
noncomputable def limL (id k : Nat) : Option (Int × Int) :=
  if id = 0 then (if k = 3 then some (0, 1) else if k = 5 then some (0, 6) else if k = 7 then some (0, 100) else none)
  else if id < 49 then limC ((id - 1) % 16) k
  else if id < 52 then none
  else if id < 64 then (if id % 2 = 0 then (if k = 1 then some (-1, 4) else if k = 2 then some (0, 60) else none) else none)
  else if id = 64 then (if k = 1 then some (0, 1000) else none)
  else if id = 66 then some (0, 5)
  else none
noncomputable def lim (id k : Nat) : Option (Int × Int) :=
  if id < 69 then limL id k else match fo id with
  | some o => limF o k
  | none => if 2000 ≤ id then (if k = 0 then some (0, 6) else if k = 1 then some (0, 5) else if k = 2 then some (0, 9) else none) else none
/-- a mower that lives -/
noncomputable def isMw (V : Vx) (μ : Nat) : Prop := ∃ ci : Nat, isMc ci ∧ kd μ = (10 + ci, 0) ∧ μ ∈ ids V
noncomputable def XI (V : Vx) (σ : Sg) : Prop := (∀ id k lo hi, lim id k = some (lo, hi) → lo ≤ (gi σ id k).toInt ∧ (gi σ id k).toInt ≤ hi) ∧ (∀ c, isC c → (∃ f, gr σ c 10 = some f ∧ kd f = (12, 0) ∧ f ∈ ids V) ∧ ∀ k μ, gr σ (c + 1) k = some μ → isMw V μ) ∧ (∀ k f, gr σ 49 k = some f → kd f = (12, 0) ∧ f ∈ ids V) ∧ (∀ f, kd f = (12, 0) → gr σ f 9 = none ∨ gr σ f 9 = some 50)
theorem kdF_ge {f : Nat} (h : kd f = (12, 0)) : f = 69 ∨ (1000 ≤ f ∧ f < 2000 ∧ (f - 1000) % 5 = 0) := by
  rcases kdF h with h | ⟨k, hk, h⟩
  · exact Or.inl h
  · exact Or.inr ⟨by omega, by omega, by omega⟩
theorem mc_ge {ci : Nat} (h : isMc ci) : ci ≤ 10 ∧ ci ≠ 2 ∧ ci ≠ 1 ∧ ci ≠ 5 ∧ ci ≠ 9 := by rcases h with rfl | rfl | rfl | rfl | rfl | rfl | rfl <;> decide
theorem kdM_lo : ∀ f, f < 175 → ∀ ci, ci ∈ mcs → kd f ≠ (10 + ci, 0) := by decide +kernel
theorem kdM_ge {μ ci : Nat} (hm : isMc ci) (h : kd μ = (10 + ci, 0)) : 2000 ≤ μ := by
  by_cases h1 : μ < 175
  · exact absurd h (kdM_lo μ h1 ci (mcs_of hm))
  · by_cases h2 : μ < 1000
    · simp [kd, h1, h2] at h
      have := mc_ge hm; omega
    · by_cases h3 : μ < 2000
      · simp only [kd, h1, h2, h3, if_true, if_false, fkd] at h
        have := mc_ge hm
        split at h
        · exact absurd (congrArg Prod.fst h) (by show ¬ (12 : Nat) = 10 + ci; omega)
        · split at h
          · exact absurd (congrArg Prod.fst h) (by show ¬ (0 : Nat) = 10 + ci; omega)
          · exact absurd (congrArg Prod.fst h) (by show ¬ (0 : Nat) = 10 + ci; omega)
      · omega
theorem lim_C0_1 {c : Nat} (hc : isC c) : lim c 1 = some (0, 6) := by rcases hc with rfl | rfl | rfl <;> rfl
theorem lim_C0_3 {c : Nat} (hc : isC c) : lim c 3 = some (0, 6) := by rcases hc with rfl | rfl | rfl <;> rfl
theorem lim_C0_9 {c : Nat} (hc : isC c) : lim c 9 = some (0, 20000) := by rcases hc with rfl | rfl | rfl <;> rfl
theorem lim_C0_n {c : Nat} (hc : isC c) (k : Nat) (hk : k ≠ 1 ∧ k ≠ 3 ∧ k ≠ 9) : lim c k = none := by rcases hc with rfl | rfl | rfl <;> simp [lim, limL, limC, hk.1, hk.2.1, hk.2.2]
theorem lim_C2 {c : Nat} (hc : isC c) (k : Nat) : lim (c + 2) k = some (0, 5) := by rcases hc with rfl | rfl | rfl <;> rfl
theorem lim_C13 {c : Nat} (hc : isC c) (k : Nat) : lim (c + 13) k = some (0, 5) := by rcases hc with rfl | rfl | rfl <;> rfl
theorem lim_C3 {c : Nat} (hc : isC c) (k : Nat) : lim (c + 3) k = none := by rcases hc with rfl | rfl | rfl <;> rfl
theorem lim_C4 {c : Nat} (hc : isC c) (k : Nat) : lim (c + 4) k = none := by rcases hc with rfl | rfl | rfl <;> rfl
theorem lim_C5 {c : Nat} (hc : isC c) (k : Nat) : lim (c + 5) k = none := by rcases hc with rfl | rfl | rfl <;> rfl
theorem lim_C6 {c : Nat} (hc : isC c) (k : Nat) : lim (c + 6) k = none := by rcases hc with rfl | rfl | rfl <;> rfl
theorem lim_C7 {c : Nat} (hc : isC c) (k : Nat) : lim (c + 7) k = none := by rcases hc with rfl | rfl | rfl <;> rfl
theorem lim_C14 {c : Nat} (hc : isC c) (k : Nat) : lim (c + 14) k = none := by rcases hc with rfl | rfl | rfl <;> rfl
theorem lim_C15 {c : Nat} (hc : isC c) (k : Nat) : lim (c + 15) k = none := by rcases hc with rfl | rfl | rfl <;> rfl
theorem lim_C8_1 {c : Nat} (hc : isC c) : lim (c + 8) 1 = some (0, 18) := by rcases hc with rfl | rfl | rfl <;> rfl
theorem lim_C10_1 {c : Nat} (hc : isC c) : lim (c + 10) 1 = some (0, 10) := by rcases hc with rfl | rfl | rfl <;> rfl
theorem lim_C12_1 {c : Nat} (hc : isC c) : lim (c + 12) 1 = some (0, 8) := by rcases hc with rfl | rfl | rfl <;> rfl
set_option maxRecDepth 100000 in
theorem lim_F {f : Nat} (h : kd f = (12, 0)) {o k : Nat} (ho : o < 5) : lim (f + o) k = limF o k := by
  rcases kdF_ge h with rfl | ⟨h1, h2, h3⟩
  · have a1 : ¬ 69 + o < 69 := by omega
    have a2 : 69 + o < 74 := by omega
    simp [lim, fo, a1, a2]
  · have a1 : ¬ f + o < 69 := by omega
    have a2 : ¬ f + o < 74 := by omega
    have a3 : ¬ f + o < 1000 := by omega
    have a4 : f + o < 2000 := by omega
    have a5 : (f + o - 1000) % 5 = o := by omega
    simp [lim, fo, a1, a2, a3, a4, a5]
theorem lim_F0_4 {f : Nat} (h : kd f = (12, 0)) : lim f 4 = some (0, 100) := by rw [show f = f + 0 from rfl, lim_F h (by decide +kernel)]; rfl
theorem lim_F0_8 {f : Nat} (h : kd f = (12, 0)) : lim f 8 = some (0, 10) := by rw [show f = f + 0 from rfl, lim_F h (by decide +kernel)]; rfl
theorem lim_F0_10 {f : Nat} (h : kd f = (12, 0)) : lim f 10 = some (0, 100) := by rw [show f = f + 0 from rfl, lim_F h (by decide +kernel)]; rfl
theorem lim_F0_11 {f : Nat} (h : kd f = (12, 0)) : lim f 11 = some (0, 100) := by rw [show f = f + 0 from rfl, lim_F h (by decide +kernel)]; rfl
theorem lim_F0_n {f : Nat} (h : kd f = (12, 0)) (k : Nat) (hk : k ≠ 4 ∧ k ≠ 8 ∧ k ≠ 10 ∧ k ≠ 11) : lim f k = none := by rw [show f = f + 0 from rfl, lim_F h (by decide +kernel)]; simp [limF, hk.1, hk.2.1, hk.2.2.1, hk.2.2.2]
theorem lim_F1 {f : Nat} (h : kd f = (12, 0)) (k : Nat) : lim (f + 1) k = some (-3, 1799) := by rw [lim_F h (by decide +kernel)]; rfl
theorem lim_F4 {f : Nat} (h : kd f = (12, 0)) (k : Nat) : lim (f + 4) k = some (0, 100) := by rw [lim_F h (by decide +kernel)]; rfl
theorem lim_F2 {f : Nat} (h : kd f = (12, 0)) (k : Nat) : lim (f + 2) k = none := by rw [lim_F h (by decide +kernel)]; rfl
theorem lim_F3 {f : Nat} (h : kd f = (12, 0)) (k : Nat) : lim (f + 3) k = none := by rw [lim_F h (by decide +kernel)]; rfl
theorem lim_M0_0 {μ ci : Nat} (hm : isMc ci) (h : kd μ = (10 + ci, 0)) : lim μ 0 = some (0, 6) := by
  have h0 := kdM_ge hm h
  have a1 : ¬ μ < 69 := by omega
  have a2 : ¬ μ < 74 := by omega
  have a3 : ¬ μ < 1000 := by omega
  have a4 : ¬ μ < 2000 := by omega
  simp [lim, fo, a1, a2, a3, a4]
theorem lim_M0_1 {μ ci : Nat} (hm : isMc ci) (h : kd μ = (10 + ci, 0)) : lim μ 1 = some (0, 5) := by
  have h0 := kdM_ge hm h
  have a1 : ¬ μ < 69 := by omega
  have a2 : ¬ μ < 74 := by omega
  have a3 : ¬ μ < 1000 := by omega
  have a4 : ¬ μ < 2000 := by omega
  simp [lim, fo, a1, a2, a3, a4]
theorem lim_M0_2 {μ ci : Nat} (hm : isMc ci) (h : kd μ = (10 + ci, 0)) : lim μ 2 = some (0, 9) := by
  have h0 := kdM_ge hm h
  have a1 : ¬ μ < 69 := by omega
  have a2 : ¬ μ < 74 := by omega
  have a3 : ¬ μ < 1000 := by omega
  have a4 : ¬ μ < 2000 := by omega
  simp [lim, fo, a1, a2, a3, a4]
theorem lim_T0_1 {t : Nat} (ht : isT t) : lim t 1 = some (-1, 4) := by rcases ht with rfl | rfl | rfl | rfl | rfl | rfl <;> rfl
theorem lim_T0_2 {t : Nat} (ht : isT t) : lim t 2 = some (0, 60) := by rcases ht with rfl | rfl | rfl | rfl | rfl | rfl <;> rfl
/-- the most of a row of numbers -/
noncomputable def capI (n : Nat) : Int := if n = 64 then 1000 else if n % 16 = 9 then 18 else if n % 16 = 11 then 10 else 8
noncomputable def seenN (n : Nat) : Prop := n = 9 ∨ n = 25 ∨ n = 41
theorem lim_N {n : Nat} (hn : isN n) : lim n 1 = some (0, capI n) := by rcases hn with rfl | rfl | rfl | rfl | rfl | rfl | rfl | rfl | rfl | rfl <;> rfl
theorem lim_Nr {n : Nat} (hn : isN n) (k : Nat) {lo hi : Int} (h : lim (n + 1) k = some (lo, hi)) : lo = 0 ∧ hi = 5 ∧ (seenN n ∧ k % 3 = 0 ∨ n % 16 = 13) := by
  unfold seenN
  rcases hn with rfl | rfl | rfl | rfl | rfl | rfl | rfl | rfl | rfl | rfl <;> simp [lim, limL, limC, fo] at h ⊢ <;> omega
theorem nl_le {n : Nat} (hn : isN n) : (nl n : Int) ≤ capI n ∧ capI n ≤ 1000 ∧ 8 ≤ (nl n : Int) ∧ (nl n : Int) ≤ 20 := by rcases hn with rfl | rfl | rfl | rfl | rfl | rfl | rfl | rfl | rfl | rfl <;> decide
theorem XI_c1 {V : Vx} {σ : Sg} (x : XI V σ) {id k : Nat} {lo hi : Int} (h : lim id k = some (lo, hi)) : lo ≤ (gi σ id k).toInt ∧ (gi σ id k).toInt ≤ hi := x.1 id k lo hi h
theorem XIs {V : Vx} {σ : Sg} {a k : Nat} {v : Int32} (x : XI V σ) (h : ∀ lo hi, lim a k = some (lo, hi) → lo ≤ v.toInt ∧ v.toInt ≤ hi) : XI V (si σ a k v) := by
  refine ⟨fun id j lo hi hl => ?_, x.2⟩
  by_cases e : id = a ∧ j = k
  · obtain ⟨rfl, rfl⟩ := e
    rw [gi_si_eq]
    exact h lo hi hl
  · rw [gi_si_ne (by by_cases hb : id = a
                     · exact Or.inr (fun hj => e ⟨hb, hj⟩)
                     · exact Or.inl hb)]
    exact x.1 id j lo hi hl
theorem XIs_n {V : Vx} {σ : Sg} {a k : Nat} {v : Int32} (x : XI V σ) (h : lim a k = none) : XI V (si σ a k v) := XIs x (fun lo hi q => by rw [h] at q; cases q)
theorem XIs_b {V : Vx} {σ : Sg} {a k : Nat} {v : Int32} {lo hi : Int} (x : XI V σ) (h : lim a k = some (lo, hi)) (h1 : lo ≤ v.toInt) (h2 : v.toInt ≤ hi) : XI V (si σ a k v) := XIs x (fun lo' hi' q => by rw [h] at q; cases q; exact ⟨h1, h2⟩)
theorem XIs_Nr {V : Vx} {σ : Sg} {n k : Nat} {v : Int32} (x : XI V σ) (hn : isN n) (h : seenN n ∧ k % 3 = 0 ∨ n % 16 = 13 → 0 ≤ v.toInt ∧ v.toInt ≤ 5) : XI V (si σ (n + 1) k v) := XIs x (fun lo hi q => by
  obtain ⟨rfl, rfl, z⟩ := lim_Nr hn k q
  exact h z)
theorem XIs_l {V : Vx} {σ : Sg} {a k : Nat} {v : Int64} (x : XI V σ) : XI V (sl σ a k v) := x
theorem XIs_la {V : Vx} {σ : Sg} {a : Nat} {v : Nat → Int64} (x : XI V σ) : XI V (sla σ a v) := x
theorem gr_sr {σ : Sg} {a k b j : Nat} {v : Option Nat} : gr (sr σ a k v) b j = if b = a ∧ j = k then v else gr σ b j := by
  by_cases e : b = a
  · subst e
    by_cases e2 : j = k
    · subst e2; simp [gr, sr, sra, va_up]
    · simp [gr, sr, sra, va_up, e2]
  · simp [gr, sr, sra, va_up, e]
theorem XIs_r {V : Vx} {σ : Sg} {a k : Nat} {v : Option Nat} (x : XI V σ) (h1 : ∀ c, isC c → a = c → k = 10 → ∃ f, v = some f ∧ kd f = (12, 0) ∧ f ∈ ids V) (h2 : ∀ c, isC c → a = c + 1 → ∀ μ, v = some μ → isMw V μ) (h3 : a = 49 → ∀ f, v = some f → kd f = (12, 0) ∧ f ∈ ids V) (h4 : kd a = (12, 0) → k = 9 → v = none ∨ v = some 50) : XI V (sr σ a k v) := by
  refine ⟨x.1, fun c hc => ⟨?_, fun j μ q => ?_⟩, fun j f q => ?_, fun f hf => ?_⟩
  · rw [gr_sr]
    by_cases e : c = a ∧ 10 = k
    · rw [if_pos e]; exact h1 c hc e.1.symm e.2.symm
    · rw [if_neg e]; exact (x.2.1 c hc).1
  · rw [gr_sr] at q
    by_cases e : c + 1 = a ∧ j = k
    · rw [if_pos e] at q; exact h2 c hc e.1.symm μ q
    · rw [if_neg e] at q; exact (x.2.1 c hc).2 j μ q
  · rw [gr_sr] at q
    by_cases e : 49 = a ∧ j = k
    · rw [if_pos e] at q; exact h3 e.1.symm f q
    · rw [if_neg e] at q; exact x.2.2.1 j f q
  · rw [gr_sr]
    by_cases e : f = a ∧ 9 = k
    · rw [if_pos e]; exact h4 (e.1 ▸ hf) e.2.symm
    · rw [if_neg e]; exact x.2.2.2 f hf
theorem XIs_sia {V : Vx} {σ : Sg} {a : Nat} {g : Nat → Int32} (x : XI V σ) (h : ∀ k lo hi, lim a k = some (lo, hi) → lo ≤ (g k).toInt ∧ (g k).toInt ≤ hi) : XI V (sia σ a g) := by
  refine ⟨fun id j lo hi hl => ?_, x.2⟩
  show lo ≤ (va_up σ.1 a g id j).toInt ∧ (va_up σ.1 a g id j).toInt ≤ hi
  by_cases e : id = a
  · subst e; rw [va_up_self]; exact h j lo hi hl
  · rw [va_up_ne _ _ e]; exact x.1 id j lo hi hl
/-! what is left alone -/
noncomputable def FX (S : Nat → Prop) (F : Nat → Nat → Prop) (σ σ' : Sg) : Prop := (∀ id k, ¬ S id → ¬ F id k → gi σ' id k = gi σ id k) ∧ (∀ id k, ¬ S id → gl σ' id k = gl σ id k) ∧ (∀ id k, ¬ S id → ¬ F id k → gr σ' id k = gr σ id k)
theorem FX_rf {S : Nat → Prop} {F : Nat → Nat → Prop} {σ : Sg} : FX S F σ σ := ⟨fun _ _ _ _ => rfl, fun _ _ _ => rfl, fun _ _ _ _ => rfl⟩
theorem FX_i {S : Nat → Prop} {F : Nat → Nat → Prop} {σ σ' : Sg} (f : FX S F σ σ') {id k : Nat} (h1 : ¬ S id) (h2 : ¬ F id k) : gi σ' id k = gi σ id k := f.1 id k h1 h2
theorem FX_r {S : Nat → Prop} {F : Nat → Nat → Prop} {σ σ' : Sg} (f : FX S F σ σ') {id k : Nat} (h1 : ¬ S id) (h2 : ¬ F id k) : gr σ' id k = gr σ id k := f.2.2 id k h1 h2
theorem FX_nil {σ σ' : Sg} (f : FX (fun _ => False) (fun _ _ => False) σ σ') : σ = σ' := by
  obtain ⟨h1, h2, h3⟩ := f
  refine Prod.ext (funext fun a => funext fun k => (h1 a k (fun z => z) (fun z => z)).symm) (Prod.ext (funext fun a => funext fun k => (h2 a k (fun z => z)).symm) (funext fun a => funext fun k => (h3 a k (fun z => z) (fun z => z)).symm))
theorem FX_si {S : Nat → Prop} {F : Nat → Nat → Prop} {σ σ1 : Sg} {a k : Nat} {v : Int32} (f : FX S F σ σ1) (h : S a ∨ F a k) : FX S F σ (si σ1 a k v) := by
  refine ⟨fun id j h1 h2 => ?_, f.2.1, f.2.2⟩
  rw [← f.1 id j h1 h2]
  refine gi_si_ne ?_
  by_cases e : id = a
  · subst e
    refine Or.inr fun e2 => ?_
    subst e2
    exact h.elim h1 h2
  · exact Or.inl e
theorem FX_sia {S : Nat → Prop} {F : Nat → Nat → Prop} {σ σ1 : Sg} {a : Nat} {g : Nat → Int32} (f : FX S F σ σ1) (h : S a) : FX S F σ (sia σ1 a g) := by
  refine ⟨fun id j h1 h2 => ?_, f.2.1, f.2.2⟩
  rw [← f.1 id j h1 h2]
  have e : id ≠ a := fun e => h1 (e ▸ h)
  show va_up σ1.1 a g id j = σ1.1 id j
  rw [va_up_ne _ _ e]
theorem FX_sl {S : Nat → Prop} {F : Nat → Nat → Prop} {σ σ1 : Sg} {a k : Nat} {v : Int64} (f : FX S F σ σ1) (h : S a) : FX S F σ (sl σ1 a k v) := by
  refine ⟨f.1, fun id j h1 => ?_, f.2.2⟩
  rw [← f.2.1 id j h1]
  have e : id ≠ a := fun e => h1 (e ▸ h)
  show va_up σ1.2.1 a _ id j = σ1.2.1 id j
  rw [va_up_ne _ _ e]
theorem FX_sla {S : Nat → Prop} {F : Nat → Nat → Prop} {σ σ1 : Sg} {a : Nat} {g : Nat → Int64} (f : FX S F σ σ1) (h : S a) : FX S F σ (sla σ1 a g) := by
  refine ⟨f.1, fun id j h1 => ?_, f.2.2⟩
  rw [← f.2.1 id j h1]
  have e : id ≠ a := fun e => h1 (e ▸ h)
  show va_up σ1.2.1 a _ id j = σ1.2.1 id j
  rw [va_up_ne _ _ e]
theorem FX_sr {S : Nat → Prop} {F : Nat → Nat → Prop} {σ σ1 : Sg} {a k : Nat} {v : Option Nat} (f : FX S F σ σ1) (h : S a ∨ F a k) : FX S F σ (sr σ1 a k v) := by
  refine ⟨f.1, f.2.1, fun id j h1 h2 => ?_⟩
  rw [← f.2.2 id j h1 h2, gr_sr, if_neg]
  rintro ⟨rfl, rfl⟩
  exact h.elim h1 h2
theorem FX_tr {S S2 : Nat → Prop} {F F2 : Nat → Nat → Prop} {σ σ1 σ2 : Sg} (f : FX S F σ σ1) (g : FX S2 F2 σ1 σ2) (hS : ∀ x, S2 x → S x) (hF : ∀ x k, F2 x k → S x ∨ F x k) : FX S F σ σ2 := by
  refine ⟨fun id k h1 h2 => ?_, fun id k h1 => ?_, fun id k h1 h2 => ?_⟩
  · exact (g.1 id k (fun q => h1 (hS id q)) (fun q => (hF id k q).elim h1 h2)).trans (f.1 id k h1 h2)
  · exact (g.2.1 id k (fun q => h1 (hS id q))).trans (f.2.1 id k h1)
  · exact (g.2.2 id k (fun q => h1 (hS id q)) (fun q => (hF id k q).elim h1 h2)).trans (f.2.2 id k h1 h2)
/-- a row of mowers that may go: who stands in it is one of them, and they are there -/
noncomputable def NN (σ : Sg) (c : Nat) : Prop := (∀ p : Nat, (p : Int) < (gi σ c 3).toInt → (gi σ (c + 2) p).toInt < (gi σ c 1).toInt) ∧ (∀ m : Nat, (m : Int) < (gi σ c 1).toInt → gr σ (c + 1) m ≠ none)
theorem NN_fx {S : Nat → Prop} {F : Nat → Nat → Prop} {σ σ' : Sg} {c : Nat} (n : NN σ c) (f : FX S F σ σ') (h0 : ¬ S c) (h1 : ¬ S (c + 1)) (h2 : ¬ S (c + 2)) (g1 : ¬ F c 1) (g3 : ¬ F c 3) (g4 : ∀ k, ¬ F (c + 1) k) (g5 : ∀ k, ¬ F (c + 2) k) : NN σ' c := by
  unfold NN
  rw [f.1 c 3 h0 g3, f.1 c 1 h0 g1]
  refine ⟨fun p hp => ?_, fun m hm => ?_⟩
  · rw [f.1 (c + 2) p h2 (g5 p)]; exact n.1 p hp
  · rw [f.2.2 (c + 1) m h1 (g4 m)]; exact n.2 m hm
theorem NN_si {σ : Sg} {c a k : Nat} {v : Int32} (n : NN σ c) (h : a ≠ c + 2) (hk : a = c → k ≠ 1 ∧ k ≠ 3) : NN (si σ a k v) c := by
  have e1 : gi (si σ a k v) c 3 = gi σ c 3 := gi_si_ne (by by_cases e : c = a
                                                           · exact Or.inr fun q => (hk e.symm).2 q.symm
                                                           · exact Or.inl e)
  have e2 : gi (si σ a k v) c 1 = gi σ c 1 := gi_si_ne (by by_cases e : c = a
                                                           · exact Or.inr fun q => (hk e.symm).1 q.symm
                                                           · exact Or.inl e)
  unfold NN
  rw [e1, e2]
  refine ⟨fun p hp => ?_, n.2⟩
  rw [gi_si_ne (Or.inl (fun e => h e.symm))]
  exact n.1 p hp
theorem NN_line {σ : Sg} {c k : Nat} {v : Int32} (n : NN σ c) (h : v.toInt < (gi σ c 1).toInt) : NN (si σ (c + 2) k v) c := by
  have e1 : gi (si σ (c + 2) k v) c 3 = gi σ c 3 := gi_si_ne (Or.inl (by omega))
  have e2 : gi (si σ (c + 2) k v) c 1 = gi σ c 1 := gi_si_ne (Or.inl (by omega))
  unfold NN
  rw [e1, e2]
  refine ⟨fun p hp => ?_, n.2⟩
  by_cases e : p = k
  · subst e; rw [gi_si_eq]; exact h
  · rw [gi_si_ne (Or.inr e)]; exact n.1 p hp
theorem NN_one {σ : Sg} {c : Nat} {v : Int32} (n : NN σ c) (hl : (gi σ (c + 2) 0).toInt < (gi σ c 1).toInt) (hv : v.toInt = 1) : NN (si σ c 3 v) c := by
  have e2 : gi (si σ c 3 v) c 1 = gi σ c 1 := gi_si_ne (Or.inr (by decide +kernel))
  unfold NN
  rw [gi_si_eq, e2, hv]
  refine ⟨fun p hp => ?_, n.2⟩
  have hp0 : p = 0 := by omega
  subst hp0
  rw [gi_si_ne (Or.inl (by omega))]
  exact hl
/-- the orders that are tried: numbers of those who are there -/
noncomputable def TRp (σ : Sg) (n m : Int) : Prop := ∀ i : Nat, (i : Int) < n → (gi σ 66 i).toInt < m
noncomputable abbrev TR (σ : Sg) (n : Int) : Prop := TRp σ n n
theorem TR_fx {S : Nat → Prop} {F : Nat → Nat → Prop} {σ σ' : Sg} {n : Int} (h : TR σ n) (f : FX S F σ σ') (h1 : ¬ S 66) (h2 : ∀ k, ¬ F 66 k) : TR σ' n := fun i hi => by rw [f.1 66 i h1 (h2 i)]; exact h i hi
theorem TR_si {σ : Sg} {n : Int} {k : Nat} {v : Int32} (h : TR σ n) (hv : v.toInt < n) : TR (si σ 66 k v) n := fun i hi => by
  by_cases e : i = k
  · subst e; rw [gi_si_eq]; exact hv
  · rw [gi_si_ne (Or.inr e)]; exact h i hi
theorem TR_ne {σ : Sg} {n : Int} {a k : Nat} {v : Int32} (h : TR σ n) (ha : a ≠ 66) : TR (si σ a k v) n := fun i hi => by
  rw [gi_si_ne (Or.inl (fun e => ha e.symm))]; exact h i hi
theorem TR_sia {σ : Sg} {n : Int} {a : Nat} {g : Nat → Int32} (h : TR σ n) (ha : a ≠ 66) : TR (sia σ a g) n := fun i hi => by
  show (va_up σ.1 a g 66 i).toInt < n
  rw [va_up_ne _ _ (fun e => ha e.symm)]; exact h i hi
theorem TRp_step {σ σ' : Sg} {x v : Int32} {n m : Int} (e : σ' = si σ 66 x.toNatClampNeg v) (h : TRp σ x.toInt m) (h0 : 0 ≤ x.toInt) (hv : v.toInt < m) (hn : n = x.toInt + 1) : TRp σ' n m := fun i hi => by
  have ec := cl_eq h0
  rw [e]
  by_cases e2 : i = x.toNatClampNeg
  · rw [e2, gi_si_eq]; exact hv
  · rw [gi_si_ne (Or.inr e2)]; exact h i (by omega)
theorem gr_si {σ : Sg} {a k b j : Nat} {v : Int32} : gr (si σ a k v) b j = gr σ b j := rfl
theorem gi_sr {σ : Sg} {a k b j : Nat} {v : Option Nat} : gi (sr σ a k v) b j = gi σ b j := rfl
theorem gi_sia {σ : Sg} {a b j : Nat} {g : Nat → Int32} : gi (sia σ a g) b j = if b = a then g j else gi σ b j := by
  show va_up σ.1 a g b j = _
  by_cases e : b = a
  · subst e; rw [va_up_self, if_pos rfl]
  · rw [va_up_ne _ _ e, if_neg e]; rfl
theorem cpy_in {α : Type} (f g : Nat → α) {n k : Nat} (h : k < n) : va_cpy f g 0 0 n k = f k := by
  unfold va_cpy
  rw [if_pos ⟨Nat.zero_le _, by omega⟩]
  congr 1
  omega
/-- a course's rows, as far as the k-th, are another's -/
noncomputable def CQ (σ σ' : Sg) (c a i : Nat) : Prop := (∀ k, k < i → gr σ' (c + 1) k = gr σ (a + 1) k) ∧ (∀ j, 2 ≤ j → j ≤ 6 → ∀ k, k < i → gi σ' (c + j) k = gi σ (a + j) k)
noncomputable def CPY (σ σ' : Sg) (c a : Nat) : Prop := (gi σ' c 1 = gi σ a 1 ∧ gi σ' c 3 = gi σ a 3 ∧ gi σ' c 9 = gi σ a 9 ∧ gi σ' c 11 = gi σ a 11 ∧ gr σ' c 10 = gr σ a 10) ∧ CQ σ σ' c a 6 ∧ ∀ k, k < 24 → gi σ' (c + 7) k = gi σ (a + 7) k
theorem XI_mow {V : Vx} {σ : Sg} (x : XI V σ) {c : Nat} (hc : isC c) {k : Nat} (h : gr σ (c + 1) k ≠ none) : ∃ μ ci : Nat, gr σ (c + 1) k = some μ ∧ isMc ci ∧ kd μ = (10 + ci, 0) ∧ μ ∈ ids V := by
  cases hr : gr σ (c + 1) k with
  | none => exact absurd hr h
  | some μ =>
    obtain ⟨ci, h1, h2, h3⟩ := (x.2.1 c hc).2 k μ hr
    exact ⟨μ, ci, rfl, h1, h2, h3⟩
theorem ofNat_nl {n : Nat} (hn : isN n) : (Int32.ofNat (nl n)).toInt = (nl n : Int) := by rcases hn with rfl | rfl | rfl | rfl | rfl | rfl | rfl | rfl | rfl | rfl <;> decide +kernel
theorem nI_slen {i : Nat} (hi : i < 8) : (nI (slen i)).toInt = (slen i : Int) ∧ 3 ≤ (slen i : Int) ∧ (slen i : Int) ≤ 6 := by
  have h : ∀ i, i < 8 → (nI (slen i)).toInt = (slen i : Int) ∧ 3 ≤ (slen i : Int) ∧ (slen i : Int) ≤ 6 := by decide +kernel
  exact h i hi
theorem sby_nar : ∀ i, i < 8 → ∀ k, k < slen i → narrow .char (.int ((((sby i k) &&& 255).toUInt32 % 65536).toInt32)) = .int ((((sby i k) &&& 255).toUInt32 % 65536).toInt32) ∧ (((sby i k) &&& 255).toUInt32 % 65536).toInt32 = sby i k ∧ narrow .char (.int (sby i k)) = .int (sby i k) ∧ 32 ≤ (sby i k).toInt ∧ (sby i k).toInt ≤ 127 := by decide +kernel
/-- the sign that stands next -/
noncomputable def sgn (σ : Sg) (f : Nat) : Int32 := if gi σ f 10 ≤ gi σ f 11 then -1 else gi σ 50 (gi σ f 11).toNatClampNeg
theorem sgn_lt {σ : Sg} {f : Nat} (h : 0 ≤ (sgn σ f).toInt) : (gi σ f 11).toInt < (gi σ f 10).toInt := by
  unfold sgn at h
  by_cases q : gi σ f 10 ≤ gi σ f 11
  · rw [if_pos q] at h; exact absurd h (by decide +kernel)
  · exact Int.not_le.mp fun z => q (Int32.le_iff_toInt_le.mpr z)
theorem sgn_a {σ : Sg} {f : Nat} (h : gi σ f 10 ≤ gi σ f 11) : sgn σ f = -1 := if_pos h
theorem sgn_b {σ : Sg} {f : Nat} (h : ¬ gi σ f 10 ≤ gi σ f 11) : sgn σ f = gi σ 50 (gi σ f 11).toNatClampNeg := if_neg h
/-- what may come to a row of numbers -/
noncomputable def okNum (n : Nat) (size v : Int32) : Prop := (seenN n ∧ size.toInt % 3 = 0 ∨ n % 16 = 13) → 0 ≤ v.toInt ∧ v.toInt ≤ 5
theorem okNum_64 {s v : Int32} : okNum 64 s v := fun h => by rcases h with ⟨h, -⟩ | h <;> simp [seenN] at h
theorem okNum_11 {s v : Int32} : okNum 11 s v := fun h => by rcases h with ⟨h, -⟩ | h <;> simp [seenN] at h
theorem okNum_b {n : Nat} {s v : Int32} (h1 : 0 ≤ v.toInt) (h2 : v.toInt ≤ 5) : okNum n s v := fun _ => ⟨h1, h2⟩
theorem okNum_9 {s v : Int32} (h : ¬ s.toInt % 3 = 0) : okNum 9 s v := fun q => by
  rcases q with ⟨-, q⟩ | q
  · exact absurd q h
  · exact absurd q (by decide +kernel)
theorem okNum_in {n k : Nat} {s v : Int32} (h : okNum n s v) (hs : (k : Int) = s.toInt) : seenN n ∧ k % 3 = 0 ∨ n % 16 = 13 → 0 ≤ v.toInt ∧ v.toInt ≤ 5 := fun q => h (q.elim (fun q => Or.inl ⟨q.1, by omega⟩) Or.inr)
theorem jmax_f (x y : Int32) : (jmax x y).toInt = if x.toInt < y.toInt then y.toInt else x.toInt := by
  unfold jmax
  by_cases h : x < y
  · rw [if_pos h, if_pos (Int32.lt_iff_toInt_lt.mp h)]
  · rw [if_neg h, if_neg (fun q => h (Int32.lt_iff_toInt_lt.mpr q))]
theorem jmin_f (x y : Int32) : (jmin x y).toInt = if y.toInt < x.toInt then y.toInt else x.toInt := by
  unfold jmin
  by_cases h : y < x
  · rw [if_pos h, if_pos (Int32.lt_iff_toInt_lt.mp h)]
  · rw [if_neg h, if_neg (fun q => h (Int32.lt_iff_toInt_lt.mpr q))]
theorem jmax_b (x y : Int32) : x.toInt ≤ (jmax x y).toInt ∧ y.toInt ≤ (jmax x y).toInt ∧ ((jmax x y).toInt = x.toInt ∨ (jmax x y).toInt = y.toInt) := by
  rw [jmax_f]; split <;> omega
theorem jmin_b (x y : Int32) : (jmin x y).toInt ≤ x.toInt ∧ (jmin x y).toInt ≤ y.toInt ∧ ((jmin x y).toInt = x.toInt ∨ (jmin x y).toInt = y.toInt) := by
  rw [jmin_f]; split <;> omega
set_option maxRecDepth 100000 in
set_option maxHeartbeats 4000000 in
theorem k_X5_isFull {l : Launch} {V : Vx} {c0 : Nat} {σ0 : Sg} {Qk : Int32 → Sg → Prop} (hc0 : isN c0) (m0 : XI V σ0) (h9ret : ∀ (r : Int32) (σ' : Sg), XI V σ' → FX (fun id => False) (fun _ _ => False) σ0 σ' → (0 ≤ r.toInt) → (r.toInt ≤ 1) → ((r.toInt = 1 ∧ (nl c0 : Int) ≤ (gi σ0 c0 1).toInt) ∨ (r.toInt = 0 ∧ (gi σ0 c0 1).toInt < (nl c0 : Int))) → Qk r σ') : K_X5_isFull l V c0 σ0 Qk := by
  refine e_X5_isFull (fun M hl hV hN C => ?_)
  subst hl
  subst hV
  have oc0 : c0 = 9 ∨ c0 = 11 ∨ c0 = 13 ∨ c0 = 25 ∨ c0 = 27 ∨ c0 = 29 ∨ c0 = 41 ∨ c0 = 43 ∨ c0 = 45 ∨ c0 = 64 := hc0
  have f0 : FX (fun id => False) (fun _ _ => False) σ0 σ0 := FX_rf
  have t_1 := XI_c1 m0 (lim_N hc0)
  have t_2 := nl_le hc0
  refine s_X5_isFull_0 C hN hc0 ?_
  refine ⟨?_, ?_⟩
  · intro q_3
    have t_4 := ofNat_nl hc0
    have t_5 := nl_le hc0
    have b_6 : (gi σ0 c0 1).toInt < (Int32.ofNat (nl c0)).toInt := Int32.lt_iff_toInt_lt.mp q_3
    have z_7 : (0 : Int32).toInt = 0 := rfl
    exact h9ret (0 : Int32) σ0 m0 f0 (by omega) (by omega) (by first | with_reducible assumption | with_reducible rfl | omega | assumption | rfl)
  · intro q_3
    have t_8 := ofNat_nl hc0
    have t_9 := nl_le hc0
    have b_10 : ¬ (gi σ0 c0 1).toInt < (Int32.ofNat (nl c0)).toInt := fun h9 => q_3 (Int32.lt_iff_toInt_lt.mpr h9)
    have z_11 : (1 : Int32).toInt = 1 := rfl
    exact h9ret (1 : Int32) σ0 m0 f0 (by omega) (by omega) (by first | with_reducible assumption | with_reducible rfl | omega | assumption | rfl)
set_option maxRecDepth 100000 in
set_option maxHeartbeats 4000000 in
theorem k_X5_comes {l : Launch} {V : Vx} {c0 : Nat} {a1 : Int32} {σ0 : Sg} {Qk : Sg → Prop} (hc0 : isN c0) (m0 : XI V σ0) (pre0 : (gi σ0 c0 1).toInt + 1 ≤ capI c0) (pre1 : okNum c0 (gi σ0 c0 1) a1) (h9ret : ∀ (σ' : Sg), XI V σ' → FX (fun id => id = c0 + 1) (fun id k => (id = c0 ∧ k = 1)) σ0 σ' → ((gi σ' c0 1).toInt = (gi σ0 c0 1).toInt + 1) → Qk σ') : K_X5_comes l V c0 a1 σ0 Qk := by
  refine e_X5_comes (fun M hl hV hN C => ?_)
  subst hl
  subst hV
  have oc0 : c0 = 9 ∨ c0 = 11 ∨ c0 = 13 ∨ c0 = 25 ∨ c0 = 27 ∨ c0 = 29 ∨ c0 = 41 ∨ c0 = 43 ∨ c0 = 45 ∨ c0 = 64 := hc0
  have f0 : FX (fun id => id = c0 + 1) (fun id k => (id = c0 ∧ k = 1)) σ0 σ0 := FX_rf
  have t_1 := XI_c1 m0 (lim_N hc0)
  have t_2 := nl_le hc0
  have hs := cl_eq (x := gi σ0 c0 1) (by omega)
  refine s_X5_comes_0 C hN hc0 ?_
  refine ⟨?_, ?_⟩
  · intro q_3
    have t_4 := ofNat_nl hc0
    have t_5 := nl_le hc0
    have b_6 : (Int32.ofNat (nl c0)).toInt ≤ (gi σ0 c0 1).toInt := Int32.le_iff_toInt_le.mp q_3
    intro σ2 eσ2
    have t_7 : ((gi σ0 c0 1) + (1 : Int32)).toInt = (gi σ0 c0 1).toInt + 1 := i_add (x := (gi σ0 c0 1)) (y := (1 : Int32)) (by show (_ : Int) ≤ (gi σ0 c0 1).toInt + 1; omega) (by show (gi σ0 c0 1).toInt + 1 ≤ (_ : Int); omega)
    have mσ2 : XI (mV M) σ2 := by rw [eσ2]; exact XIs_b m0 (lim_N hc0) (by omega) (by omega)
    have fσ2 : FX (fun id => id = c0 + 1) (fun id k => (id = c0 ∧ k = 1)) σ0 σ2 := by rw [eσ2]; exact FX_si f0 (Or.inr (by show (c0 = c0 ∧ 1 = 1); omega))
    have k_8 : (gi σ2 c0 1).toInt = ((gi σ0 c0 1) + (1 : Int32)).toInt := by rw [eσ2]; exact congrArg Int32.toInt gi_si_eq
    exact h9ret σ2 mσ2 fσ2 (by first | with_reducible assumption | with_reducible rfl | omega | assumption | rfl)
  · intro q_3
    have t_9 := ofNat_nl hc0
    have t_10 := nl_le hc0
    have b_11 : ¬ (Int32.ofNat (nl c0)).toInt ≤ (gi σ0 c0 1).toInt := fun h9 => q_3 (Int32.le_iff_toInt_le.mpr h9)
    have hv_12 : vp_in (gi σ0 c0 1) (nl c0) := vp_in_iff.mpr ⟨by omega, by omega⟩
    refine ⟨hv_12, ?_⟩
    intro σ4 eσ4
    have mσ4 : XI (mV M) σ4 := by rw [eσ4]; exact XIs_Nr m0 hc0 (okNum_in pre1 hs)
    have fσ4 : FX (fun id => id = c0 + 1) (fun id k => (id = c0 ∧ k = 1)) σ0 σ4 := by rw [eσ4]; exact FX_si f0 (Or.inl (by show c0 + 1 = c0 + 1; omega))
    have k_13 : (gi σ4 c0 1).toInt = (gi σ0 c0 1).toInt := by rw [eσ4]; exact congrArg Int32.toInt (gi_si_ne (Or.inl (by omega)))
    intro σ5 eσ5
    have t_14 := XI_c1 mσ4 (lim_N hc0)
    have t_15 := nl_le hc0
    have t_16 : ((gi σ4 c0 1) + (1 : Int32)).toInt = (gi σ4 c0 1).toInt + 1 := i_add (x := (gi σ4 c0 1)) (y := (1 : Int32)) (by show (_ : Int) ≤ (gi σ4 c0 1).toInt + 1; omega) (by show (gi σ4 c0 1).toInt + 1 ≤ (_ : Int); omega)
    have mσ5 : XI (mV M) σ5 := by rw [eσ5]; exact XIs_b mσ4 (lim_N hc0) (by omega) (by omega)
    have fσ5 : FX (fun id => id = c0 + 1) (fun id k => (id = c0 ∧ k = 1)) σ0 σ5 := by rw [eσ5]; exact FX_si fσ4 (Or.inr (by show (c0 = c0 ∧ 1 = 1); omega))
    have k_17 : (gi σ5 c0 1).toInt = ((gi σ4 c0 1) + (1 : Int32)).toInt := by rw [eσ5]; exact congrArg Int32.toInt gi_si_eq
    exact h9ret σ5 mσ5 fσ5 (by first | with_reducible assumption | with_reducible rfl | omega | assumption | rfl)
theorem lim_Nsame {n m : Nat} (hn : isN n) (hm : isN m) (h : n % 16 = m % 16) (k : Nat) : lim (n + 1) k = lim (m + 1) k := by
  rcases hn with rfl | rfl | rfl | rfl | rfl | rfl | rfl | rfl | rfl | rfl <;> rcases hm with rfl | rfl | rfl | rfl | rfl | rfl | rfl | rfl | rfl | rfl <;> first | rfl | (exfalso; omega)
set_option maxRecDepth 100000 in
set_option maxHeartbeats 4000000 in
theorem k_X5_becomes {l : Launch} {V : Vx} {c0 : Nat} {a1 : Nat} {σ0 : Sg} {Qk : Sg → Prop} (hc0 : isN c0) (ha1 : isN a1) (m0 : XI V σ0) (pre0 : capI c0 = capI a1) (pre1 : c0 % 16 = a1 % 16) (pre2 : c0 ≠ a1) (h9ret : ∀ (σ' : Sg), XI V σ' → FX (fun id => id = c0 + 1) (fun id k => (id = c0 ∧ k = 1)) σ0 σ' → ((gi σ' c0 1).toInt = (gi σ0 a1 1).toInt) → Qk σ') : K_X5_becomes l V c0 a1 σ0 Qk := by
  refine e_X5_becomes (fun M hl hV hN C => ?_)
  subst hl
  subst hV
  refine s_X5_becomes_0 C hN hc0 ha1 ?_
  intro s1 e1
  have b1 := XI_c1 m0 (lim_N ha1)
  have m1 : XI (mV M) s1 := by rw [e1]; exact XIs_b m0 (lim_N hc0) b1.1 (by omega)
  have f1 : FX (fun id => id = c0 + 1) (fun id k => (id = c0 ∧ k = 1)) σ0 s1 := by rw [e1]; exact FX_si FX_rf (Or.inr ⟨rfl, rfl⟩)
  intro v2 e2
  have n1 := ofNat_nl hc0
  have n2 := ofNat_nl ha1
  have n3 := nl_le hc0
  have n4 := nl_le ha1
  have hb := jmin_b (Int32.ofNat (nl c0)) (Int32.ofNat (nl a1))
  rw [← e2] at hb
  have ec := cl_eq (x := v2) (by omega)
  have z0 : (0 : Int32).toNatClampNeg = 0 := by decide +kernel
  refine ⟨⟨by decide +kernel, by decide +kernel, fun h9 => ?_, by rw [z0]; omega, by rw [z0]; omega⟩, ?_⟩
  · have h8 := Int32.lt_iff_toInt_lt.mp h9
    have h7 : (0 : Int32).toInt = 0 := rfl
    omega
  intro s3 e3
  have m3 : XI (mV M) s3 := by
    rw [e3]
    refine XIs_sia m1 (fun k lo hi q => ?_)
    unfold va_cpy
    split
    · exact m1.1 (a1 + 1) _ lo hi (by rw [show (0 : Int32).toNatClampNeg + (k - (0 : Int32).toNatClampNeg) = k from by rw [z0]; omega, ← lim_Nsame hc0 ha1 pre1]; exact q)
    · exact m1.1 (c0 + 1) k lo hi q
  have f3 : FX (fun id => id = c0 + 1) (fun id k => (id = c0 ∧ k = 1)) σ0 s3 := by rw [e3]; exact FX_sia f1 rfl
  refine h9ret s3 m3 f3 ?_
  rw [e3, gi_sia, if_neg (by omega), e1, gi_si_eq]
set_option maxRecDepth 100000 in
set_option maxHeartbeats 4000000 in
theorem k_X9_isEmpty {l : Launch} {V : Vx} {c0 : Nat} {σ0 : Sg} {Qk : Int32 → Sg → Prop} (hc0 : isT c0) (m0 : XI V σ0) (h9ret : ∀ (r : Int32) (σ' : Sg), XI V σ' → FX (fun id => False) (fun _ _ => False) σ0 σ' → (0 ≤ r.toInt) → (r.toInt ≤ 1) → Qk r σ') : K_X9_isEmpty l V c0 σ0 Qk := by
  refine e_X9_isEmpty (fun M hl hV hN C => ?_)
  subst hl
  subst hV
  have oc0 : c0 = 52 ∨ c0 = 54 ∨ c0 = 56 ∨ c0 = 58 ∨ c0 = 60 ∨ c0 = 62 := hc0
  have f0 : FX (fun id => False) (fun _ _ => False) σ0 σ0 := FX_rf
  have t_1 := XI_c1 m0 (k := 1) (lim_T0_1 hc0)
  refine s_X9_isEmpty_0 C hN hc0 ?_
  refine ⟨?_, ?_⟩
  · intro q_2
    have b_3 : (0 : Int) ≤ (gi σ0 c0 1).toInt := Int32.le_iff_toInt_le.mp q_2
    have z_4 : (0 : Int32).toInt = 0 := rfl
    exact h9ret (0 : Int32) σ0 m0 f0 (by omega) (by omega)
  · intro q_2
    have b_5 : ¬ (0 : Int) ≤ (gi σ0 c0 1).toInt := fun h9 => q_2 (Int32.le_iff_toInt_le.mpr h9)
    have z_6 : (1 : Int32).toInt = 1 := rfl
    exact h9ret (1 : Int32) σ0 m0 f0 (by omega) (by omega)
set_option maxRecDepth 100000 in
set_option maxHeartbeats 4000000 in
theorem k_X9_has {l : Launch} {V : Vx} {c0 : Nat} {a1 : Int32} {σ0 : Sg} {Qk : Int32 → Sg → Prop} (hc0 : isT c0) (m0 : XI V σ0) (h9ret : ∀ (r : Int32) (σ' : Sg), XI V σ' → FX (fun id => False) (fun _ _ => False) σ0 σ' → (0 ≤ r.toInt) → (r.toInt ≤ 1) → ((r.toInt = 1 ∧ 0 ≤ a1.toInt ∧ a1.toInt < (gi σ0 c0 2).toInt) ∨ r.toInt = 0) → Qk r σ') : K_X9_has l V c0 a1 σ0 Qk := by
  refine e_X9_has (fun M hl hV hN C => ?_)
  subst hl
  subst hV
  have oc0 : c0 = 52 ∨ c0 = 54 ∨ c0 = 56 ∨ c0 = 58 ∨ c0 = 60 ∨ c0 = 62 := hc0
  have f0 : FX (fun id => False) (fun _ _ => False) σ0 σ0 := FX_rf
  have t_1 := XI_c1 m0 (k := 2) (lim_T0_2 hc0)
  refine s_X9_has_0 C hN hc0 ?_
  refine ⟨?_, ?_⟩
  · intro q_2
    have w_3 := Int32.toInt_lt a1
    have w_4 := Int32.le_toInt a1
    have b_5 : a1.toInt < 0 := Int32.lt_iff_toInt_lt.mp q_2
    have z_6 : (0 : Int32).toInt = 0 := rfl
    exact h9ret (0 : Int32) σ0 m0 f0 (by omega) (by omega) (by first | with_reducible assumption | with_reducible rfl | omega | assumption | rfl)
  · intro q_2
    have w_7 := Int32.toInt_lt a1
    have w_8 := Int32.le_toInt a1
    have b_9 : ¬ a1.toInt < 0 := fun h9 => q_2 (Int32.lt_iff_toInt_lt.mpr h9)
    refine ⟨?_, ?_⟩
    · intro q_10
      have b_11 : (gi σ0 c0 2).toInt ≤ a1.toInt := Int32.le_iff_toInt_le.mp q_10
      have z_12 : (0 : Int32).toInt = 0 := rfl
      exact h9ret (0 : Int32) σ0 m0 f0 (by omega) (by omega) (by first | with_reducible assumption | with_reducible rfl | omega | assumption | rfl)
    · intro q_10
      have b_13 : ¬ (gi σ0 c0 2).toInt ≤ a1.toInt := fun h9 => q_10 (Int32.le_iff_toInt_le.mpr h9)
      have z_14 : (1 : Int32).toInt = 1 := rfl
      exact h9ret (1 : Int32) σ0 m0 f0 (by omega) (by omega) (by first | with_reducible assumption | with_reducible rfl | omega | assumption | rfl)
theorem shr0_slen : ∀ i, i < 8 → nI (slen i) >>> ((0 : Int32) &&& 31) = nI (slen i) := by decide +kernel
theorem k0_coder {l : Launch} {V : Vx} {c0 : Nat} {σ : Sg} {Qk : Int32 → Sg → Prop} (hc0 : c0 < 8) (h : Qk 0 σ) : K_J0_coder_7d493 l V c0 σ Qk := by
  refine e_J0_coder_7d493 (fun M hl hV hN C => ?_)
  subst hl
  subst hV
  exact s_J0_coder_7d493_0 C hN hc0 ⟨fun q => absurd q (by decide +kernel), fun _ => h⟩
theorem k0_isLatin1 {l : Launch} {V : Vx} {c0 : Nat} {σ : Sg} {Qk : Int32 → Sg → Prop} (hc0 : c0 < 8) (h : Qk 1 σ) : K_J0_isLatin1_aae02 l V c0 σ Qk := by
  refine e_J0_isLatin1_aae02 (fun M hl hV hN C => ?_)
  subst hl
  subst hV
  exact s_J0_isLatin1_aae02_0 C hN hc0 ⟨fun q => absurd q (by decide +kernel), fun _ => ⟨fun q => absurd rfl q, fun _ => h⟩⟩
theorem k_J0_length_8abf5 {l : Launch} {V : Vx} {c0 : Nat} {σ0 : Sg} {Qk : Int32 → Sg → Prop} (hc0 : c0 < 8) (m0 : XI V σ0) (h9ret : ∀ (r : Int32) (σ' : Sg), XI V σ' → FX (fun id => False) (fun _ _ => False) σ0 σ' → (r.toInt = (slen c0 : Int)) → Qk r σ') : K_J0_length_8abf5 l V c0 σ0 Qk := by
  refine e_J0_length_8abf5 (fun M hl hV hN C => ?_)
  subst hl
  subst hV
  refine s_J0_length_8abf5_0 C hN hc0 (k0_coder hc0 ?_)
  rw [shr0_slen c0 hc0]
  exact h9ret _ σ0 m0 FX_rf (nI_slen hc0).1
theorem vp_two {i : Int32} {n : Nat} (h : vp_in i n) : ¬ i < 0 ∧ i.toNatClampNeg < n := ⟨fun q => h (Or.inl q), vp_lt h⟩
theorem k0_charAt1 {l : Launch} {V : Vx} {a1 : Nat} {a2 : Int32} {σ : Sg} {Qk : Int32 → Sg → Prop} (ha1 : a1 < 8) (hv : vp_in a2 (slen a1)) (h : Qk (sby a1 a2.toNatClampNeg) σ) : K_J1_charAt_3b067 l V a1 a2 σ Qk := by
  refine e_J1_charAt_3b067 (fun M hl hV hN C => ?_)
  subst hl
  subst hV
  obtain ⟨h0, h1⟩ := vp_two hv
  obtain ⟨n1, n2, -⟩ := sby_nar a1 ha1 _ h1
  have hn := nI_slen ha1
  have h00 : 0 ≤ a2.toInt := by
    have := Int32.not_lt.mp h0
    exact Int32.le_iff_toInt_le.mp this
  have ec := cl_eq h00
  refine s_J1_charAt_3b067_0 C hN ha1 (k_J0_checkIndex h0 (Int32.lt_iff_toInt_lt.mpr (by omega)) ⟨hv, n1, ?_⟩)
  rw [n2]
  exact h
theorem k_J0_charAt_5068e {l : Launch} {V : Vx} {c0 : Nat} {a1 : Int32} {σ0 : Sg} {Qk : Int32 → Sg → Prop} (hc0 : c0 < 8) (m0 : XI V σ0) (pre0 : vp_in a1 (slen c0)) (h9ret : ∀ (r : Int32) (σ' : Sg), XI V σ' → FX (fun id => False) (fun _ _ => False) σ0 σ' → (32 ≤ r.toInt ∧ r.toInt ≤ 127) → (r = sby c0 a1.toNatClampNeg) → Qk r σ') : K_J0_charAt_5068e l V c0 a1 σ0 Qk := by
  refine e_J0_charAt_5068e (fun M hl hV hN C => ?_)
  subst hl
  subst hV
  obtain ⟨n1, n2, n3, n4⟩ := sby_nar c0 hc0 _ (vp_lt pre0)
  refine s_J0_charAt_5068e_0 C hN hc0 (k0_isLatin1 hc0 ⟨fun q => absurd q (by decide +kernel), fun _ => ?_⟩)
  exact k0_charAt1 hc0 pre0 ⟨n3, h9ret _ σ0 m0 FX_rf n4 rfl⟩
set_option maxRecDepth 100000 in
set_option maxHeartbeats 4000000 in
theorem k_X2_holds {l : Launch} {V : Vx} {c0 : Nat} {a1 : Int32} {a2 : Int32} {a3 : Nat} {σ0 : Sg} {Qk : Int32 → Sg → Prop} (hc0 : kd c0 = (12, 0)) (lc0 : c0 ∈ ids (V)) {na3 : Nat} (ha3 : kd a3 = (0, na3)) (la3 : a3 ∈ ids (V)) (m0 : XI V σ0) (l_a1 : 0 ≤ a1.toInt) (u_a1 : a1.toInt ≤ 100) (pre0 : na3 = 6) (h9ret : ∀ (r : Int32) (σ' : Sg), XI V σ' → FX (fun id => False) (fun _ _ => False) σ0 σ' → (0 ≤ r.toInt) → (r.toInt ≤ 1) → Qk r σ') : K_X2_holds l V c0 a1 a2 a3 σ0 Qk := by
  refine e_X2_holds (fun M hl hV hN C => ?_)
  subst hl
  subst hV
  have gc0 : hid _ := kdF_ge hc0
  have T : ∀ n : Nat, (∀ (x2 : Int32) (x4 : Int32) (x5 : Int32) (σ : Sg), XI (mV M) σ → FX (fun id => False) (fun _ _ => False) σ0 σ → (0 ≤ x5.toInt) → (x5.toInt ≤ 100) → (101 - x5.toInt).toNat * 2 + 1 < n → PS M 6 [(0, .ref c0), (2, .int x2), (3, .ref a3), (4, .int x4), (5, .int x5)] [] σ (0, 0)) ∧ (∀ (x4 : Int32) (σ : Sg), XI (mV M) σ → FX (fun id => False) (fun _ _ => False) σ0 σ → 1 < n → PS M 187 [(4, .int x4)] [] σ (0, 0)) ∧ (∀ (x2 : Int32) (x4 : Int32) (x5 : Int32) (z0 : Int32) (σ : Sg), XI (mV M) σ → FX (fun id => False) (fun _ _ => False) σ0 σ → (0 ≤ x5.toInt) → (x5.toInt ≤ 99) → (101 - x5.toInt).toNat * 2 < n → PS M 107 [(0, .ref c0), (2, .int x2), (3, .ref a3), (4, .int x4), (5, .int x5)] [.int z0] σ (0, 0)) := by
    intro n
    induction n with
    | zero => exact ⟨fun _ _ _ _ _ _ _ _ h8 => absurd h8 (Nat.not_lt_zero _), fun _ _ _ _ h8 => absurd h8 (Nat.not_lt_zero _), fun _ _ _ _ _ _ _ _ _ h8 => absurd h8 (Nat.not_lt_zero _)⟩
    | succ n ih =>
      obtain ⟨ih6, ih187, ih107⟩ := ih
      refine ⟨?_, ?_, ?_⟩
      · intro x2 x4 x5 σ mσ fσ lx5 ux5 hmu
        have k_1 : (gi σ c0 4).toInt = (gi σ0 c0 4).toInt := congrArg Int32.toInt (FX_i fσ id id)
        have t_2 := XI_c1 mσ (id := c0) (k := 4) (lim_F0_4 hc0)
        refine s_X2_holds_6 C hN hc0 lc0 ha3 la3 ?_
        refine ⟨?_, ?_⟩
        · intro q_3
          have w_4 := Int32.toInt_lt x2
          have w_5 := Int32.le_toInt x2
          have b_6 : x2.toInt ≤ x5.toInt := Int32.le_iff_toInt_le.mp q_3
          have w_7 := Int32.toInt_lt x4
          have w_8 := Int32.le_toInt x4
          exact ih187 x4 σ mσ fσ (by omega)
        · intro q_3
          have w_9 := Int32.toInt_lt x2
          have w_10 := Int32.le_toInt x2
          have b_11 : ¬ x2.toInt ≤ x5.toInt := fun h9 => q_3 (Int32.le_iff_toInt_le.mpr h9)
          refine ⟨?_, ?_⟩
          · intro q_12
            have b_13 : (gi σ c0 4).toInt ≤ x5.toInt := Int32.le_iff_toInt_le.mp q_12
            have w_14 := Int32.toInt_lt x4
            have w_15 := Int32.le_toInt x4
            exact ih187 x4 σ mσ fσ (by omega)
          · intro q_12
            have b_16 : ¬ (gi σ c0 4).toInt ≤ x5.toInt := fun h9 => q_12 (Int32.le_iff_toInt_le.mpr h9)
            have hv_17 : vp_in x5 100 := vp_in_iff.mpr ⟨by omega, by omega⟩
            refine ⟨hv_17, ?_⟩
            intro v4 ev4
            have t_18 := XI_c1 mσ (id := (c0 + 1)) (k := x5.toNatClampNeg) (lim_F1 hc0 _)
            have t_19 : v4.toInt = (gi σ (c0 + 1) x5.toNatClampNeg).toInt := congrArg Int32.toInt ev4
            refine ⟨?_, ?_⟩
            · intro q_20
              have b_21 : v4.toInt < 0 := Int32.lt_iff_toInt_lt.mp q_20
              refine ⟨?_, ?_⟩
              · intro q_22
                have b_23 : ¬ v4.toInt = (-1) := fun h9 => q_22 (Int32.toInt_inj.mp h9)
                intro v7 ev7
                intro v8 ev8
                refine ⟨?_, ?_⟩
                · intro q_24
                  have b_25 : ¬ v4.toInt = (-3) := fun h9 => q_24 (Int32.toInt_inj.mp h9)
                  intro v10 ev10
                  intro v11 ev11
                  have t_26 : (x5 + (1 : Int32)).toInt = x5.toInt + 1 := i_add (x := x5) (y := (1 : Int32)) (by show (_ : Int) ≤ x5.toInt + 1; omega) (by show x5.toInt + 1 ≤ (_ : Int); omega)
                  have t_27 : v11.toInt = (x5 + (1 : Int32)).toInt := congrArg Int32.toInt ev11
                  have w_28 := Int32.toInt_lt v10
                  have w_29 := Int32.le_toInt v10
                  exact ih6 x2 v10 v11 σ mσ fσ (by omega) (by omega) (by omega)
                · intro q_24
                  have b_30 : v4.toInt = (-3) := congrArg Int32.toInt q_24
                  intro v12 ev12
                  intro v13 ev13
                  have t_31 : (x5 + (1 : Int32)).toInt = x5.toInt + 1 := i_add (x := x5) (y := (1 : Int32)) (by show (_ : Int) ≤ x5.toInt + 1; omega) (by show x5.toInt + 1 ≤ (_ : Int); omega)
                  have t_32 : v13.toInt = (x5 + (1 : Int32)).toInt := congrArg Int32.toInt ev13
                  have w_33 := Int32.toInt_lt v12
                  have w_34 := Int32.le_toInt v12
                  exact ih6 x2 v12 v13 σ mσ fσ (by omega) (by omega) (by omega)
              · intro q_22
                have b_35 : v4.toInt = (-1) := congrArg Int32.toInt q_22
                intro v14 ev14
                intro v15 ev15
                have t_36 : (x5 + (1 : Int32)).toInt = x5.toInt + 1 := i_add (x := x5) (y := (1 : Int32)) (by show (_ : Int) ≤ x5.toInt + 1; omega) (by show x5.toInt + 1 ≤ (_ : Int); omega)
                have t_37 : v15.toInt = (x5 + (1 : Int32)).toInt := congrArg Int32.toInt ev15
                have w_38 := Int32.toInt_lt v14
                have w_39 := Int32.le_toInt v14
                exact ih6 x2 v14 v15 σ mσ fσ (by omega) (by omega) (by omega)
            · intro q_20
              have b_40 : ¬ v4.toInt < 0 := fun h9 => q_20 (Int32.lt_iff_toInt_lt.mpr h9)
              try have t_41 : (v4 / (300 : Int32)).toInt = v4.toInt / 300 := i_div (by omega) (by decide +kernel) rfl
              have hv_42 : vp_in (v4 / (300 : Int32)) na3 := vp_in_iff.mpr ⟨by omega, by omega⟩
              refine ⟨hv_42, ?_⟩
              intro v17 ev17
              intro v18 ev18
              refine ⟨?_, ?_⟩
              · intro q_43
                have w_44 := Int32.toInt_lt v18
                have w_45 := Int32.le_toInt v18
                have b_46 : ¬ v18.toInt = 0 := fun h9 => q_43 (Int32.toInt_inj.mp h9)
                refine ⟨?_, ?_⟩
                · intro q_47
                  have b_48 : ¬ v18.toInt = 1 := fun h9 => q_47 (Int32.toInt_inj.mp h9)
                  refine ⟨?_, ?_⟩
                  · intro q_49
                    have w_50 := Int32.toInt_lt v17
                    have w_51 := Int32.le_toInt v17
                    have b_52 : v17.toInt ≤ 0 := Int32.le_iff_toInt_le.mp q_49
                    have w_53 := Int32.toInt_lt x4
                    have w_54 := Int32.le_toInt x4
                    have z_55 : (0 : Int32).toInt = 0 := rfl
                    exact ih107 x2 x4 x5 (0 : Int32) σ mσ fσ (by omega) (by omega) (by omega)
                  · intro q_49
                    have w_56 := Int32.toInt_lt v17
                    have w_57 := Int32.le_toInt v17
                    have b_58 : ¬ v17.toInt ≤ 0 := fun h9 => q_49 (Int32.le_iff_toInt_le.mpr h9)
                    have w_59 := Int32.toInt_lt x4
                    have w_60 := Int32.le_toInt x4
                    have z_61 : (1 : Int32).toInt = 1 := rfl
                    exact ih107 x2 x4 x5 (1 : Int32) σ mσ fσ (by omega) (by omega) (by omega)
                · intro q_47
                  have b_62 : v18.toInt = 1 := congrArg Int32.toInt q_47
                  refine ⟨?_, ?_⟩
                  · intro q_63
                    have w_64 := Int32.toInt_lt v17
                    have w_65 := Int32.le_toInt v17
                    have b_66 : ¬ v17.toInt = 0 := fun h9 => q_63 (Int32.toInt_inj.mp h9)
                    have w_67 := Int32.toInt_lt x4
                    have w_68 := Int32.le_toInt x4
                    have z_69 : (0 : Int32).toInt = 0 := rfl
                    exact ih107 x2 x4 x5 (0 : Int32) σ mσ fσ (by omega) (by omega) (by omega)
                  · intro q_63
                    have w_70 := Int32.toInt_lt v17
                    have w_71 := Int32.le_toInt v17
                    have b_72 : v17.toInt = 0 := congrArg Int32.toInt q_63
                    have w_73 := Int32.toInt_lt x4
                    have w_74 := Int32.le_toInt x4
                    have z_75 : (1 : Int32).toInt = 1 := rfl
                    exact ih107 x2 x4 x5 (1 : Int32) σ mσ fσ (by omega) (by omega) (by omega)
              · intro q_43
                have w_76 := Int32.toInt_lt v18
                have w_77 := Int32.le_toInt v18
                have b_78 : v18.toInt = 0 := congrArg Int32.toInt q_43
                refine ⟨?_, ?_⟩
                · intro q_79
                  have w_80 := Int32.toInt_lt v17
                  have w_81 := Int32.le_toInt v17
                  have b_82 : (0 : Int) ≤ v17.toInt := Int32.le_iff_toInt_le.mp q_79
                  have w_83 := Int32.toInt_lt x4
                  have w_84 := Int32.le_toInt x4
                  have z_85 : (0 : Int32).toInt = 0 := rfl
                  exact ih107 x2 x4 x5 (0 : Int32) σ mσ fσ (by omega) (by omega) (by omega)
                · intro q_79
                  have w_86 := Int32.toInt_lt v17
                  have w_87 := Int32.le_toInt v17
                  have b_88 : ¬ (0 : Int) ≤ v17.toInt := fun h9 => q_79 (Int32.le_iff_toInt_le.mpr h9)
                  have w_89 := Int32.toInt_lt x4
                  have w_90 := Int32.le_toInt x4
                  have z_91 : (1 : Int32).toInt = 1 := rfl
                  exact ih107 x2 x4 x5 (1 : Int32) σ mσ fσ (by omega) (by omega) (by omega)
      · intro x4 σ mσ fσ hmu
        have k_92 : (gi σ c0 4).toInt = (gi σ0 c0 4).toInt := congrArg Int32.toInt (FX_i fσ id id)
        have t_93 := XI_c1 mσ (id := c0) (k := 4) (lim_F0_4 hc0)
        refine s_X2_holds_187 C hN  ?_
        refine ⟨?_, ?_⟩
        · intro q_94
          have w_95 := Int32.toInt_lt x4
          have w_96 := Int32.le_toInt x4
          have b_97 : ¬ (x4 &&& (1 : Int32)).toInt = 1 := fun h9 => q_94 (Int32.toInt_inj.mp h9)
          have z_98 : (0 : Int32).toInt = 0 := rfl
          exact h9ret (0 : Int32) σ mσ fσ (by omega) (by omega)
        · intro q_94
          have w_99 := Int32.toInt_lt x4
          have w_100 := Int32.le_toInt x4
          have b_101 : (x4 &&& (1 : Int32)).toInt = 1 := congrArg Int32.toInt q_94
          have z_102 : (1 : Int32).toInt = 1 := rfl
          exact h9ret (1 : Int32) σ mσ fσ (by omega) (by omega)
      · intro x2 x4 x5 z0 σ mσ fσ lx5 ux5 hmu
        have k_103 : (gi σ c0 4).toInt = (gi σ0 c0 4).toInt := congrArg Int32.toInt (FX_i fσ id id)
        have t_104 := XI_c1 mσ (id := c0) (k := 4) (lim_F0_4 hc0)
        refine s_X2_holds_107 C hN hc0 lc0 ha3 la3 ?_
        refine ⟨?_, ?_⟩
        · intro q_105
          have w_106 := Int32.toInt_lt z0
          have w_107 := Int32.le_toInt z0
          have b_108 : z0.toInt = 0 := congrArg Int32.toInt q_105
          intro v2 ev2
          intro v3 ev3
          have t_109 : (x5 + (1 : Int32)).toInt = x5.toInt + 1 := i_add (x := x5) (y := (1 : Int32)) (by show (_ : Int) ≤ x5.toInt + 1; omega) (by show x5.toInt + 1 ≤ (_ : Int); omega)
          have t_110 : v3.toInt = (x5 + (1 : Int32)).toInt := congrArg Int32.toInt ev3
          have w_111 := Int32.toInt_lt x2
          have w_112 := Int32.le_toInt x2
          have w_113 := Int32.toInt_lt v2
          have w_114 := Int32.le_toInt v2
          exact ih6 x2 v2 v3 σ mσ fσ (by omega) (by omega) (by omega)
        · intro q_105
          have w_115 := Int32.toInt_lt z0
          have w_116 := Int32.le_toInt z0
          have b_117 : ¬ z0.toInt = 0 := fun h9 => q_105 (Int32.toInt_inj.mp h9)
          intro v4 ev4
          intro v5 ev5
          have t_118 : (x5 + (1 : Int32)).toInt = x5.toInt + 1 := i_add (x := x5) (y := (1 : Int32)) (by show (_ : Int) ≤ x5.toInt + 1; omega) (by show x5.toInt + 1 ≤ (_ : Int); omega)
          have t_119 : v5.toInt = (x5 + (1 : Int32)).toInt := congrArg Int32.toInt ev5
          have w_120 := Int32.toInt_lt x2
          have w_121 := Int32.le_toInt x2
          have w_122 := Int32.toInt_lt v4
          have w_123 := Int32.le_toInt v4
          exact ih6 x2 v4 v5 σ mσ fσ (by omega) (by omega) (by omega)
  obtain ⟨U6, U187, U107⟩ := T 900
  have f0 : FX (fun id => False) (fun _ _ => False) σ0 σ0 := FX_rf
  have t_124 := XI_c1 m0 (id := c0) (k := 4) (lim_F0_4 hc0)
  refine s_X2_holds_0 C hN hc0 lc0 ha3 la3 ?_
  have w_125 := Int32.toInt_lt a2
  have w_126 := Int32.le_toInt a2
  have z_127 : (0 : Int32).toInt = 0 := rfl
  exact U6 a2 (0 : Int32) a1 σ0 m0 f0 (by omega) (by omega) (by omega)
set_option maxRecDepth 100000 in
set_option maxHeartbeats 4000000 in
theorem k_X2_paceOf {l : Launch} {V : Vx} {c0 : Nat} {a1 : Nat} {σ0 : Sg} {Qk : Int32 → Sg → Prop} (hc0 : kd c0 = (12, 0)) (lc0 : c0 ∈ ids (V)) {na1 : Nat} (ha1 : kd a1 = (0, na1)) (la1 : a1 ∈ ids (V)) (m0 : XI V σ0) (pre0 : na1 = 6) (h9ret : ∀ (r : Int32) (σ' : Sg), XI V σ' → FX (fun id => False) (fun _ _ => False) σ0 σ' → Qk r σ') : K_X2_paceOf l V c0 a1 σ0 Qk := by
  refine e_X2_paceOf (fun M hl hV hN C => ?_)
  subst hl
  subst hV
  have gc0 : hid _ := kdF_ge hc0
  have T : ∀ n : Nat, (∀ (x2 : Int32) (x3 : Int32) (x4 : Int32) (σ : Sg), XI (mV M) σ → FX (fun id => False) (fun _ _ => False) σ0 σ → (0 ≤ x3.toInt) → (x3.toInt ≤ 100) → (0 ≤ x4.toInt) → (x4.toInt ≤ 10) → (11 - x4.toInt).toNat * 2 + 1 < n → PS M 8 [(0, .ref c0), (1, .ref a1), (2, .int x2), (3, .int x3), (4, .int x4)] [] σ (0, 0)) ∧ (∀ (x4 : Int32) (z0 : Int32) (z1 : Int32) (σ : Sg), XI (mV M) σ → FX (fun id => False) (fun _ _ => False) σ0 σ → (0 ≤ x4.toInt) → (x4.toInt ≤ 9) → (11 - x4.toInt).toNat * 2 < n → PS M 73 [(0, .ref c0), (1, .ref a1), (4, .int x4)] [.int z0, .int z1] σ (0, 0)) := by
    intro n
    induction n with
    | zero => exact ⟨fun _ _ _ _ _ _ _ _ _ _ h8 => absurd h8 (Nat.not_lt_zero _), fun _ _ _ _ _ _ _ _ h8 => absurd h8 (Nat.not_lt_zero _)⟩
    | succ n ih =>
      obtain ⟨ih8, ih73⟩ := ih
      refine ⟨?_, ?_⟩
      · intro x2 x3 x4 σ mσ fσ lx3 ux3 lx4 ux4 hmu
        have k_1 : (gi σ c0 8).toInt = (gi σ0 c0 8).toInt := congrArg Int32.toInt (FX_i fσ id id)
        have t_2 := XI_c1 mσ (id := c0) (k := 8) (lim_F0_8 hc0)
        refine s_X2_paceOf_8 C hN hc0 lc0 ha1 la1 ?_
        refine ⟨?_, ?_⟩
        · intro q_3
          have b_4 : (gi σ c0 8).toInt ≤ x4.toInt := Int32.le_iff_toInt_le.mp q_3
          refine ⟨?_, ?_⟩
          · intro q_5
            have w_6 := Int32.toInt_lt x2
            have w_7 := Int32.le_toInt x2
            have b_8 : x2.toInt ≤ 0 := Int32.le_iff_toInt_le.mp q_5
            have z_9 : (0 : Int32).toInt = 0 := rfl
            exact h9ret (0 : Int32) σ mσ fσ
          · intro q_5
            have w_10 := Int32.toInt_lt x2
            have w_11 := Int32.le_toInt x2
            have b_12 : ¬ x2.toInt ≤ 0 := fun h9 => q_5 (Int32.le_iff_toInt_le.mpr h9)
            exact h9ret x2 σ mσ fσ
        · intro q_3
          have b_13 : ¬ (gi σ c0 8).toInt ≤ x4.toInt := fun h9 => q_3 (Int32.le_iff_toInt_le.mpr h9)
          have hv_14 : vp_in x4 10 := vp_in_iff.mpr ⟨by omega, by omega⟩
          refine ⟨hv_14, ?_⟩
          refine ⟨?_, ?_⟩
          · intro q_15
            have w_16 := Int32.toInt_lt (gi σ (c0 + 2) x4.toNatClampNeg)
            have w_17 := Int32.le_toInt (gi σ (c0 + 2) x4.toNatClampNeg)
            have b_18 : (1 : Int) < (gi σ (c0 + 2) x4.toNatClampNeg).toInt := Int32.lt_iff_toInt_lt.mp q_15
            refine ⟨hv_14, ?_⟩
            intro v6 ev6
            have t_19 := XI_c1 mσ (id := (c0 + 4)) (k := x4.toNatClampNeg) (lim_F4 hc0 _)
            have t_20 : v6.toInt = (gi σ (c0 + 4) x4.toNatClampNeg).toInt := congrArg Int32.toInt ev6
            intro v7 ev7
            have t_21 : (x4 + (1 : Int32)).toInt = x4.toInt + 1 := i_add (x := x4) (y := (1 : Int32)) (by show (_ : Int) ≤ x4.toInt + 1; omega) (by show x4.toInt + 1 ≤ (_ : Int); omega)
            have t_22 : v7.toInt = (x4 + (1 : Int32)).toInt := congrArg Int32.toInt ev7
            have w_23 := Int32.toInt_lt x2
            have w_24 := Int32.le_toInt x2
            exact ih8 x2 v6 v7 σ mσ fσ (by omega) (by omega) (by omega) (by omega) (by omega)
          · intro q_15
            have w_25 := Int32.toInt_lt (gi σ (c0 + 2) x4.toNatClampNeg)
            have w_26 := Int32.le_toInt (gi σ (c0 + 2) x4.toNatClampNeg)
            have b_27 : ¬ (1 : Int) < (gi σ (c0 + 2) x4.toNatClampNeg).toInt := fun h9 => q_15 (Int32.lt_iff_toInt_lt.mpr h9)
            refine ⟨hv_14, ?_⟩
            have t_28 := XI_c1 mσ (id := (c0 + 4)) (k := x4.toNatClampNeg) (lim_F4 hc0 _)
            refine k_X2_holds hc0 lc0 ha1 la1 mσ  (by omega) (by omega) (by first | with_reducible assumption | with_reducible rfl | omega | assumption | rfl) (fun r10 σ9 mσ9 cσ9 plσ9 phσ9 => ?_)
            obtain rfl := FX_nil cσ9
            refine ⟨?_, ?_⟩
            · intro q_29
              have b_30 : r10.toInt = 0 := congrArg Int32.toInt q_29
              refine ⟨hv_14, ?_⟩
              intro v13 ev13
              have t_31 : v13.toInt = (gi σ (c0 + 4) x4.toNatClampNeg).toInt := congrArg Int32.toInt ev13
              intro v14 ev14
              have t_32 : (x4 + (1 : Int32)).toInt = x4.toInt + 1 := i_add (x := x4) (y := (1 : Int32)) (by show (_ : Int) ≤ x4.toInt + 1; omega) (by show x4.toInt + 1 ≤ (_ : Int); omega)
              have t_33 : v14.toInt = (x4 + (1 : Int32)).toInt := congrArg Int32.toInt ev14
              have w_34 := Int32.toInt_lt x2
              have w_35 := Int32.le_toInt x2
              exact ih8 x2 v13 v14 σ mσ fσ (by omega) (by omega) (by omega) (by omega) (by omega)
            · intro q_29
              have b_36 : ¬ r10.toInt = 0 := fun h9 => q_29 (Int32.toInt_inj.mp h9)
              refine ⟨hv_14, ?_⟩
              refine ⟨?_, ?_⟩
              · intro q_37
                have b_38 : ¬ (gi σ (c0 + 2) x4.toNatClampNeg).toInt = 0 := fun h9 => q_37 (Int32.toInt_inj.mp h9)
                refine ⟨hv_14, ?_⟩
                have w_39 := Int32.toInt_lt x2
                have w_40 := Int32.le_toInt x2
                exact ih73 x4 (-(gi σ (c0 + 3) x4.toNatClampNeg)) x2 σ mσ fσ (by omega) (by omega) (by omega)
              · intro q_37
                have b_41 : (gi σ (c0 + 2) x4.toNatClampNeg).toInt = 0 := congrArg Int32.toInt q_37
                refine ⟨hv_14, ?_⟩
                have w_42 := Int32.toInt_lt (gi σ (c0 + 3) x4.toNatClampNeg)
                have w_43 := Int32.le_toInt (gi σ (c0 + 3) x4.toNatClampNeg)
                have w_44 := Int32.toInt_lt x2
                have w_45 := Int32.le_toInt x2
                exact ih73 x4 (gi σ (c0 + 3) x4.toNatClampNeg) x2 σ mσ fσ (by omega) (by omega) (by omega)
      · intro x4 z0 z1 σ mσ fσ lx4 ux4 hmu
        have k_46 : (gi σ c0 8).toInt = (gi σ0 c0 8).toInt := congrArg Int32.toInt (FX_i fσ id id)
        have t_47 := XI_c1 mσ (id := c0) (k := 8) (lim_F0_8 hc0)
        refine s_X2_paceOf_73 C hN hc0 lc0 ha1 la1 ?_
        intro v1 ev1
        have hv_48 : vp_in x4 10 := vp_in_iff.mpr ⟨by omega, by omega⟩
        refine ⟨hv_48, ?_⟩
        intro v3 ev3
        have t_49 := XI_c1 mσ (id := (c0 + 4)) (k := x4.toNatClampNeg) (lim_F4 hc0 _)
        have t_50 : v3.toInt = (gi σ (c0 + 4) x4.toNatClampNeg).toInt := congrArg Int32.toInt ev3
        intro v4 ev4
        have t_51 : (x4 + (1 : Int32)).toInt = x4.toInt + 1 := i_add (x := x4) (y := (1 : Int32)) (by show (_ : Int) ≤ x4.toInt + 1; omega) (by show x4.toInt + 1 ≤ (_ : Int); omega)
        have t_52 : v4.toInt = (x4 + (1 : Int32)).toInt := congrArg Int32.toInt ev4
        have w_53 := Int32.toInt_lt v1
        have w_54 := Int32.le_toInt v1
        exact ih8 v1 v3 v4 σ mσ fσ (by omega) (by omega) (by omega) (by omega) (by omega)
  obtain ⟨U8, U73⟩ := T 900
  have f0 : FX (fun id => False) (fun _ _ => False) σ0 σ0 := FX_rf
  have t_55 := XI_c1 m0 (id := c0) (k := 8) (lim_F0_8 hc0)
  refine s_X2_paceOf_0 C hN hc0 lc0 ha1 la1 ?_
  have z_56 : (6 : Int32).toInt = 6 := rfl
  have z_57 : (0 : Int32).toInt = 0 := rfl
  exact U8 (6 : Int32) (0 : Int32) (0 : Int32) σ0 m0 f0 (by omega) (by omega) (by omega) (by omega) (by omega)
set_option maxRecDepth 100000 in
set_option maxHeartbeats 4000000 in
theorem k_X4_strides {l : Launch} {V : Vx} {c0 : Nat} {a1 : Int32} {a2 : Nat} {a3 : Int32} {σ0 : Sg} {Qk : Int32 → Sg → Prop} {ci0 : Nat} (sc0 : ci0 = 0 ∨ ci0 = 3 ∨ ci0 = 4 ∨ ci0 = 6 ∨ ci0 = 7 ∨ ci0 = 8 ∨ ci0 = 10) (hc0 : kd c0 = (10 + ci0, 0)) (lc0 : c0 ∈ ids (V)) (ha2 : isC a2) (m0 : XI V σ0) (l_a3 : 0 ≤ a3.toInt) (u_a3 : a3.toInt ≤ 5) (h9ret : ∀ (r : Int32) (σ' : Sg), XI V σ' → FX (fun id => False) (fun _ _ => False) σ0 σ' → Qk r σ') : K_X4_strides l V c0 a1 a2 a3 σ0 Qk := by
  refine e_X4_strides (fun M hl hV hN C => ?_)
  subst hl
  subst hV
  have ic0 : isMc ci0 := by rcases sc0 with rfl | rfl | rfl | rfl | rfl | rfl | rfl <;> decide
  have gc0 := kdM_ge ic0 hc0
  have oa2 : hid (a2 = 1 ∨ a2 = 17 ∨ a2 = 33) := ha2
  have f0 : FX (fun id => False) (fun _ _ => False) σ0 σ0 := FX_rf
  have t_1 := XI_c1 m0 (id := c0) (k := 1) (lim_M0_1 ic0 hc0)
  refine s_X4_strides_0 C hN sc0 hc0 lc0 ha2 ?_
  have hv_2 : vp_in (gi σ0 c0 1) 6 := vp_in_iff.mpr ⟨by omega, by omega⟩
  refine ⟨hv_2, ?_⟩
  intro v2 ev2
  refine ⟨?_, ?_⟩
  · intro q_3
    have w_4 := Int32.toInt_lt a1
    have w_5 := Int32.le_toInt a1
    have w_6 := Int32.toInt_lt v2
    have w_7 := Int32.le_toInt v2
    have b_8 : a1.toInt ≤ v2.toInt := Int32.le_iff_toInt_le.mp q_3
    have z_9 : (0 : Int32).toInt = 0 := rfl
    exact h9ret (0 : Int32) σ0 m0 f0
  · intro q_3
    have w_10 := Int32.toInt_lt a1
    have w_11 := Int32.le_toInt a1
    have w_12 := Int32.toInt_lt v2
    have w_13 := Int32.le_toInt v2
    have b_14 : ¬ a1.toInt ≤ v2.toInt := fun h9 => q_3 (Int32.le_iff_toInt_le.mpr h9)
    exact h9ret (a1 - v2) σ0 m0 f0
set_option maxRecDepth 100000 in
set_option maxHeartbeats 4000000 in
theorem k_X8_strides {l : Launch} {V : Vx} {c0 : Nat} {a1 : Int32} {a2 : Nat} {a3 : Int32} {σ0 : Sg} {Qk : Int32 → Sg → Prop} {ci0 : Nat} (sc0 : ci0 = 6 ∨ ci0 = 8) (hc0 : kd c0 = (10 + ci0, 0)) (lc0 : c0 ∈ ids (V)) (ha2 : isC a2) (m0 : XI V σ0) (l_a3 : 0 ≤ a3.toInt) (u_a3 : a3.toInt ≤ 5) (h9ret : ∀ (r : Int32) (σ' : Sg), XI V σ' → FX (fun id => False) (fun _ _ => False) σ0 σ' → Qk r σ') : K_X8_strides l V c0 a1 a2 a3 σ0 Qk := by
  refine e_X8_strides (fun M hl hV hN C => ?_)
  subst hl
  subst hV
  have ic0 : isMc ci0 := by rcases sc0 with rfl | rfl <;> decide
  have gc0 := kdM_ge ic0 hc0
  have oa2 : hid (a2 = 1 ∨ a2 = 17 ∨ a2 = 33) := ha2
  have f0 : FX (fun id => False) (fun _ _ => False) σ0 σ0 := FX_rf
  refine s_X8_strides_0 C hN sc0 hc0 lc0 ha2 ?_
  exact h9ret a1 σ0 m0 f0
set_option maxRecDepth 100000 in
set_option maxHeartbeats 4000000 in
theorem k_X3_strides {l : Launch} {V : Vx} {c0 : Nat} {a1 : Int32} {a2 : Nat} {a3 : Int32} {σ0 : Sg} {Qk : Int32 → Sg → Prop} {ci0 : Nat} (sc0 : ci0 = 3 ∨ ci0 = 7) (hc0 : kd c0 = (10 + ci0, 0)) (lc0 : c0 ∈ ids (V)) (ha2 : isC a2) (m0 : XI V σ0) (l_a3 : 0 ≤ a3.toInt) (u_a3 : a3.toInt ≤ 5) (h9ret : ∀ (r : Int32) (σ' : Sg), XI V σ' → FX (fun id => False) (fun _ _ => False) σ0 σ' → Qk r σ') : K_X3_strides l V c0 a1 a2 a3 σ0 Qk := by
  refine e_X3_strides (fun M hl hV hN C => ?_)
  subst hl
  subst hV
  have ic0 : isMc ci0 := by rcases sc0 with rfl | rfl <;> decide
  have gc0 := kdM_ge ic0 hc0
  have oa2 : hid (a2 = 1 ∨ a2 = 17 ∨ a2 = 33) := ha2
  have f0 : FX (fun id => False) (fun _ _ => False) σ0 σ0 := FX_rf
  have t_1 := XI_c1 m0 (id := c0) (k := 1) (lim_M0_1 ic0 hc0)
  have t_2 := XI_c1 m0 (id := c0) (k := 2) (lim_M0_2 ic0 hc0)
  refine s_X3_strides_0 C hN sc0 hc0 lc0 ha2 ?_
  refine k_X4_strides (show ci0 = 0 ∨ ci0 = 3 ∨ ci0 = 4 ∨ ci0 = 6 ∨ ci0 = 7 ∨ ci0 = 8 ∨ ci0 = 10 from by omega) hc0 lc0 ha2 m0  (by omega) (by omega) (fun r3 σ2 mσ2 cσ2 => ?_)
  obtain rfl := FX_nil cσ2
  have hv_3 : vp_in (gi σ0 c0 1) 6 := vp_in_iff.mpr ⟨by omega, by omega⟩
  refine ⟨hv_3, ?_⟩
  refine ⟨?_, ?_⟩
  · intro q_4
    have w_5 := Int32.toInt_lt (gi σ0 (a2 + 4) (gi σ0 c0 1).toNatClampNeg)
    have w_6 := Int32.le_toInt (gi σ0 (a2 + 4) (gi σ0 c0 1).toNatClampNeg)
    have b_7 : (gi σ0 (a2 + 4) (gi σ0 c0 1).toNatClampNeg).toInt ≤ 5 := Int32.le_iff_toInt_le.mp q_4
    exact h9ret (r3 + (0 : Int32)) σ0 m0 f0
  · intro q_4
    have w_8 := Int32.toInt_lt (gi σ0 (a2 + 4) (gi σ0 c0 1).toNatClampNeg)
    have w_9 := Int32.le_toInt (gi σ0 (a2 + 4) (gi σ0 c0 1).toNatClampNeg)
    have b_10 : ¬ (gi σ0 (a2 + 4) (gi σ0 c0 1).toNatClampNeg).toInt ≤ 5 := fun h9 => q_4 (Int32.le_iff_toInt_le.mpr h9)
    exact h9ret (r3 + (gi σ0 c0 2)) σ0 m0 f0
set_option maxRecDepth 100000 in
set_option maxHeartbeats 4000000 in
theorem k_X0_strides {l : Launch} {V : Vx} {c0 : Nat} {a1 : Int32} {a2 : Nat} {a3 : Int32} {σ0 : Sg} {Qk : Int32 → Sg → Prop} {ci0 : Nat} (sc0 : ci0 = 0 ∨ ci0 = 10) (hc0 : kd c0 = (10 + ci0, 0)) (lc0 : c0 ∈ ids (V)) (ha2 : isC a2) (m0 : XI V σ0) (l_a3 : 0 ≤ a3.toInt) (u_a3 : a3.toInt ≤ 5) (h9ret : ∀ (r : Int32) (σ' : Sg), XI V σ' → FX (fun id => False) (fun _ _ => False) σ0 σ' → Qk r σ') : K_X0_strides l V c0 a1 a2 a3 σ0 Qk := by
  refine e_X0_strides (fun M hl hV hN C => ?_)
  subst hl
  subst hV
  have ic0 : isMc ci0 := by rcases sc0 with rfl | rfl <;> decide
  have gc0 := kdM_ge ic0 hc0
  have oa2 : hid (a2 = 1 ∨ a2 = 17 ∨ a2 = 33) := ha2
  have f0 : FX (fun id => False) (fun _ _ => False) σ0 σ0 := FX_rf
  refine s_X0_strides_0 C hN sc0 hc0 lc0 ha2 ?_
  refine k_X4_strides (show ci0 = 0 ∨ ci0 = 3 ∨ ci0 = 4 ∨ ci0 = 6 ∨ ci0 = 7 ∨ ci0 = 8 ∨ ci0 = 10 from by omega) hc0 lc0 ha2 m0  (by omega) (by omega) (fun r3 σ2 mσ2 cσ2 => ?_)
  obtain rfl := FX_nil cσ2
  exact h9ret (r3 / (2 : Int32)) σ0 m0 f0
set_option maxRecDepth 100000 in
set_option maxHeartbeats 4000000 in
theorem k_X6_strides {l : Launch} {V : Vx} {c0 : Nat} {a1 : Int32} {a2 : Nat} {a3 : Int32} {σ0 : Sg} {Qk : Int32 → Sg → Prop} {ci0 : Nat} (sc0 : ci0 = 6) (hc0 : kd c0 = (10 + ci0, 0)) (lc0 : c0 ∈ ids (V)) (ha2 : isC a2) (m0 : XI V σ0) (l_a3 : 0 ≤ a3.toInt) (u_a3 : a3.toInt ≤ 5) (h9ret : ∀ (r : Int32) (σ' : Sg), XI V σ' → FX (fun id => False) (fun _ _ => False) σ0 σ' → Qk r σ') : K_X6_strides l V c0 a1 a2 a3 σ0 Qk := by
  refine e_X6_strides (fun M hl hV hN C => ?_)
  subst hl
  subst hV
  have ic0 : isMc ci0 := by rw [sc0]; decide
  have gc0 := kdM_ge ic0 hc0
  have oa2 : hid (a2 = 1 ∨ a2 = 17 ∨ a2 = 33) := ha2
  have f0 : FX (fun id => False) (fun _ _ => False) σ0 σ0 := FX_rf
  have t_1 := XI_c1 m0 (id := c0) (k := 2) (lim_M0_2 ic0 hc0)
  refine s_X6_strides_0 C hN sc0 hc0 lc0 ha2 ?_
  refine k_X8_strides (show ci0 = 6 ∨ ci0 = 8 from by omega) hc0 lc0 ha2 m0  (by omega) (by omega) (fun r3 σ2 mσ2 cσ2 => ?_)
  obtain rfl := FX_nil cσ2
  intro v4 ev4
  have t_2 : ((gi σ0 c0 2) / (3 : Int32)).toInt = (gi σ0 c0 2).toInt / 3 := i_div (by omega) (by decide +kernel) rfl
  refine ⟨?_, ?_⟩
  · intro q_3
    have w_4 := Int32.toInt_lt v4
    have w_5 := Int32.le_toInt v4
    have b_6 : v4.toInt ≤ 0 := Int32.le_iff_toInt_le.mp q_3
    have z_7 : (0 : Int32).toInt = 0 := rfl
    exact h9ret (0 : Int32) σ0 m0 f0
  · intro q_3
    have w_8 := Int32.toInt_lt v4
    have w_9 := Int32.le_toInt v4
    have b_10 : ¬ v4.toInt ≤ 0 := fun h9 => q_3 (Int32.le_iff_toInt_le.mpr h9)
    exact h9ret v4 σ0 m0 f0
set_option maxRecDepth 100000 in
set_option maxHeartbeats 4000000 in
theorem k_X1_gap {l : Launch} {V : Vx} {c0 : Nat} {σ0 : Sg} {Qk : Int32 → Sg → Prop} (hc0 : isC c0) (m0 : XI V σ0) (h9ret : ∀ (r : Int32) (σ' : Sg), XI V σ' → FX (fun id => False) (fun _ _ => False) σ0 σ' → Qk r σ') : K_X1_gap l V c0 σ0 Qk := by
  refine e_X1_gap (fun M hl hV hN C => ?_)
  subst hl
  subst hV
  have oc0 : hid (c0 = 1 ∨ c0 = 17 ∨ c0 = 33) := hc0
  have f0 : FX (fun id => False) (fun _ _ => False) σ0 σ0 := FX_rf
  refine s_X1_gap_0 C hN hc0 ?_
  refine ⟨?_, ?_⟩
  · intro q_1
    have b_2 : (gi σ0 c0 11).toInt < 0 := Int32.lt_iff_toInt_lt.mp q_1
    obtain ⟨f2, ef2, hf2, lf2⟩ := (m0.2.1 _ hc0).1
    have gf2 : hid _ := kdF_ge hf2
    refine ⟨f2, ef2, hf2, lf2, ?_⟩
    exact h9ret (gi σ0 f2 0) σ0 m0 f0
  · intro q_1
    have b_3 : ¬ (gi σ0 c0 11).toInt < 0 := fun h9 => q_1 (Int32.lt_iff_toInt_lt.mpr h9)
    exact h9ret (gi σ0 c0 11) σ0 m0 f0
set_option maxRecDepth 100000 in
set_option maxHeartbeats 4000000 in
theorem k_X1_isPressedAt {l : Launch} {V : Vx} {c0 : Nat} {a1 : Int32} {σ0 : Sg} {Qk : Int32 → Sg → Prop} (hc0 : isC c0) (m0 : XI V σ0) (l_a1 : 0 ≤ a1.toInt) (u_a1 : a1.toInt ≤ 5) (h9ret : ∀ (r : Int32) (σ' : Sg), XI V σ' → FX (fun id => False) (fun _ _ => False) σ0 σ' → (0 ≤ r.toInt) → (r.toInt ≤ 1) → Qk r σ') : K_X1_isPressedAt l V c0 a1 σ0 Qk := by
  refine e_X1_isPressedAt (fun M hl hV hN C => ?_)
  subst hl
  subst hV
  have oc0 : hid (c0 = 1 ∨ c0 = 17 ∨ c0 = 33) := hc0
  have f0 : FX (fun id => False) (fun _ _ => False) σ0 σ0 := FX_rf
  have t_1 := XI_c1 m0 (id := c0) (k := 3) (lim_C0_3 hc0)
  refine s_X1_isPressedAt_0 C hN hc0 ?_
  refine ⟨?_, ?_⟩
  · intro q_2
    have t_3 : (a1 + (1 : Int32)).toInt = a1.toInt + 1 := i_add (x := a1) (y := (1 : Int32)) (by show (_ : Int) ≤ a1.toInt + 1; omega) (by show a1.toInt + 1 ≤ (_ : Int); omega)
    have b_4 : (gi σ0 c0 3).toInt ≤ (a1 + (1 : Int32)).toInt := Int32.le_iff_toInt_le.mp q_2
    have z_5 : (0 : Int32).toInt = 0 := rfl
    exact h9ret (0 : Int32) σ0 m0 f0 (by omega) (by omega)
  · intro q_2
    have t_6 : (a1 + (1 : Int32)).toInt = a1.toInt + 1 := i_add (x := a1) (y := (1 : Int32)) (by show (_ : Int) ≤ a1.toInt + 1; omega) (by show a1.toInt + 1 ≤ (_ : Int); omega)
    have b_7 : ¬ (gi σ0 c0 3).toInt ≤ (a1 + (1 : Int32)).toInt := fun h9 => q_2 (Int32.le_iff_toInt_le.mpr h9)
    have hv_8 : vp_in a1 6 := vp_in_iff.mpr ⟨by omega, by omega⟩
    refine ⟨hv_8, ?_⟩
    have t_9 := XI_c1 m0 (id := (c0 + 2)) (k := a1.toNatClampNeg) (lim_C2 hc0 _)
    have hv_10 : vp_in (gi σ0 (c0 + 2) a1.toNatClampNeg) 6 := vp_in_iff.mpr ⟨by omega, by omega⟩
    refine ⟨hv_10, ?_⟩
    have hv_11 : vp_in (a1 + (1 : Int32)) 6 := vp_in_iff.mpr ⟨by omega, by omega⟩
    refine ⟨hv_11, ?_⟩
    have t_12 := XI_c1 m0 (id := (c0 + 2)) (k := (a1 + (1 : Int32)).toNatClampNeg) (lim_C2 hc0 _)
    have hv_13 : vp_in (gi σ0 (c0 + 2) (a1 + (1 : Int32)).toNatClampNeg) 6 := vp_in_iff.mpr ⟨by omega, by omega⟩
    refine ⟨hv_13, ?_⟩
    refine k_X1_gap hc0 m0   (fun r7 σ6 mσ6 cσ6 => ?_)
    obtain rfl := FX_nil cσ6
    refine ⟨?_, ?_⟩
    · intro q_14
      have w_15 := Int32.toInt_lt r7
      have w_16 := Int32.le_toInt r7
      try have t_17 : (r7 + (3 : Int32)).toInt = r7.toInt + 3 := i_add (x := r7) (y := (3 : Int32)) (by show (_ : Int) ≤ r7.toInt + 3; omega) (by show r7.toInt + 3 ≤ (_ : Int); omega)
      have w_18 := Int32.toInt_lt (gi σ0 (c0 + 3) (gi σ0 (c0 + 2) a1.toNatClampNeg).toNatClampNeg)
      have w_19 := Int32.le_toInt (gi σ0 (c0 + 3) (gi σ0 (c0 + 2) a1.toNatClampNeg).toNatClampNeg)
      have w_20 := Int32.toInt_lt (gi σ0 (c0 + 3) (gi σ0 (c0 + 2) (a1 + (1 : Int32)).toNatClampNeg).toNatClampNeg)
      have w_21 := Int32.le_toInt (gi σ0 (c0 + 3) (gi σ0 (c0 + 2) (a1 + (1 : Int32)).toNatClampNeg).toNatClampNeg)
      try have t_22 : ((gi σ0 (c0 + 3) (gi σ0 (c0 + 2) a1.toNatClampNeg).toNatClampNeg) - (gi σ0 (c0 + 3) (gi σ0 (c0 + 2) (a1 + (1 : Int32)).toNatClampNeg).toNatClampNeg)).toInt = (gi σ0 (c0 + 3) (gi σ0 (c0 + 2) a1.toNatClampNeg).toNatClampNeg).toInt - (gi σ0 (c0 + 3) (gi σ0 (c0 + 2) (a1 + (1 : Int32)).toNatClampNeg).toNatClampNeg).toInt := i_sub (x := (gi σ0 (c0 + 3) (gi σ0 (c0 + 2) a1.toNatClampNeg).toNatClampNeg)) (y := (gi σ0 (c0 + 3) (gi σ0 (c0 + 2) (a1 + (1 : Int32)).toNatClampNeg).toNatClampNeg)) (by show (_ : Int) ≤ (gi σ0 (c0 + 3) (gi σ0 (c0 + 2) a1.toNatClampNeg).toNatClampNeg).toInt - (gi σ0 (c0 + 3) (gi σ0 (c0 + 2) (a1 + (1 : Int32)).toNatClampNeg).toNatClampNeg).toInt; omega) (by show (gi σ0 (c0 + 3) (gi σ0 (c0 + 2) a1.toNatClampNeg).toNatClampNeg).toInt - (gi σ0 (c0 + 3) (gi σ0 (c0 + 2) (a1 + (1 : Int32)).toNatClampNeg).toNatClampNeg).toInt ≤ (_ : Int); omega)
      have b_23 : (r7 + (3 : Int32)).toInt ≤ ((gi σ0 (c0 + 3) (gi σ0 (c0 + 2) a1.toNatClampNeg).toNatClampNeg) - (gi σ0 (c0 + 3) (gi σ0 (c0 + 2) (a1 + (1 : Int32)).toNatClampNeg).toNatClampNeg)).toInt := Int32.le_iff_toInt_le.mp q_14
      have z_24 : (0 : Int32).toInt = 0 := rfl
      exact h9ret (0 : Int32) σ0 m0 f0 (by omega) (by omega)
    · intro q_14
      have w_25 := Int32.toInt_lt r7
      have w_26 := Int32.le_toInt r7
      try have t_27 : (r7 + (3 : Int32)).toInt = r7.toInt + 3 := i_add (x := r7) (y := (3 : Int32)) (by show (_ : Int) ≤ r7.toInt + 3; omega) (by show r7.toInt + 3 ≤ (_ : Int); omega)
      have w_28 := Int32.toInt_lt (gi σ0 (c0 + 3) (gi σ0 (c0 + 2) a1.toNatClampNeg).toNatClampNeg)
      have w_29 := Int32.le_toInt (gi σ0 (c0 + 3) (gi σ0 (c0 + 2) a1.toNatClampNeg).toNatClampNeg)
      have w_30 := Int32.toInt_lt (gi σ0 (c0 + 3) (gi σ0 (c0 + 2) (a1 + (1 : Int32)).toNatClampNeg).toNatClampNeg)
      have w_31 := Int32.le_toInt (gi σ0 (c0 + 3) (gi σ0 (c0 + 2) (a1 + (1 : Int32)).toNatClampNeg).toNatClampNeg)
      try have t_32 : ((gi σ0 (c0 + 3) (gi σ0 (c0 + 2) a1.toNatClampNeg).toNatClampNeg) - (gi σ0 (c0 + 3) (gi σ0 (c0 + 2) (a1 + (1 : Int32)).toNatClampNeg).toNatClampNeg)).toInt = (gi σ0 (c0 + 3) (gi σ0 (c0 + 2) a1.toNatClampNeg).toNatClampNeg).toInt - (gi σ0 (c0 + 3) (gi σ0 (c0 + 2) (a1 + (1 : Int32)).toNatClampNeg).toNatClampNeg).toInt := i_sub (x := (gi σ0 (c0 + 3) (gi σ0 (c0 + 2) a1.toNatClampNeg).toNatClampNeg)) (y := (gi σ0 (c0 + 3) (gi σ0 (c0 + 2) (a1 + (1 : Int32)).toNatClampNeg).toNatClampNeg)) (by show (_ : Int) ≤ (gi σ0 (c0 + 3) (gi σ0 (c0 + 2) a1.toNatClampNeg).toNatClampNeg).toInt - (gi σ0 (c0 + 3) (gi σ0 (c0 + 2) (a1 + (1 : Int32)).toNatClampNeg).toNatClampNeg).toInt; omega) (by show (gi σ0 (c0 + 3) (gi σ0 (c0 + 2) a1.toNatClampNeg).toNatClampNeg).toInt - (gi σ0 (c0 + 3) (gi σ0 (c0 + 2) (a1 + (1 : Int32)).toNatClampNeg).toNatClampNeg).toInt ≤ (_ : Int); omega)
      have b_33 : ¬ (r7 + (3 : Int32)).toInt ≤ ((gi σ0 (c0 + 3) (gi σ0 (c0 + 2) a1.toNatClampNeg).toNatClampNeg) - (gi σ0 (c0 + 3) (gi σ0 (c0 + 2) (a1 + (1 : Int32)).toNatClampNeg).toNatClampNeg)).toInt := fun h9 => q_14 (Int32.le_iff_toInt_le.mpr h9)
      have z_34 : (1 : Int32).toInt = 1 := rfl
      exact h9ret (1 : Int32) σ0 m0 f0 (by omega) (by omega)
set_option maxRecDepth 100000 in
set_option maxHeartbeats 4000000 in
theorem k_X7_strides {l : Launch} {V : Vx} {c0 : Nat} {a1 : Int32} {a2 : Nat} {a3 : Int32} {σ0 : Sg} {Qk : Int32 → Sg → Prop} {ci0 : Nat} (sc0 : ci0 = 7) (hc0 : kd c0 = (10 + ci0, 0)) (lc0 : c0 ∈ ids (V)) (ha2 : isC a2) (m0 : XI V σ0) (l_a3 : 0 ≤ a3.toInt) (u_a3 : a3.toInt ≤ 5) (h9ret : ∀ (r : Int32) (σ' : Sg), XI V σ' → FX (fun id => False) (fun _ _ => False) σ0 σ' → Qk r σ') : K_X7_strides l V c0 a1 a2 a3 σ0 Qk := by
  refine e_X7_strides (fun M hl hV hN C => ?_)
  subst hl
  subst hV
  have ic0 : isMc ci0 := by rw [sc0]; decide
  have gc0 := kdM_ge ic0 hc0
  have oa2 : hid (a2 = 1 ∨ a2 = 17 ∨ a2 = 33) := ha2
  have f0 : FX (fun id => False) (fun _ _ => False) σ0 σ0 := FX_rf
  refine s_X7_strides_0 C hN sc0 hc0 lc0 ha2 ?_
  refine k_X3_strides (show ci0 = 3 ∨ ci0 = 7 from by omega) hc0 lc0 ha2 m0  (by omega) (by omega) (fun r3 σ2 mσ2 cσ2 => ?_)
  obtain rfl := FX_nil cσ2
  refine k_X1_isPressedAt ha2 m0  (by omega) (by omega) (fun r5 σ4 mσ4 cσ4 plσ4 phσ4 => ?_)
  obtain rfl := FX_nil cσ4
  refine ⟨?_, ?_⟩
  · intro q_1
    have b_2 : r5.toInt = 0 := congrArg Int32.toInt q_1
    exact h9ret (r3 + (0 : Int32)) σ0 m0 f0
  · intro q_1
    have b_3 : ¬ r5.toInt = 0 := fun h9 => q_1 (Int32.toInt_inj.mp h9)
    exact h9ret (r3 + (2 : Int32)) σ0 m0 f0
set_option maxRecDepth 100000 in
set_option maxHeartbeats 4000000 in
theorem k_X10_strides {l : Launch} {V : Vx} {c0 : Nat} {a1 : Int32} {a2 : Nat} {a3 : Int32} {σ0 : Sg} {Qk : Int32 → Sg → Prop} {ci0 : Nat} (sc0 : ci0 = 10) (hc0 : kd c0 = (10 + ci0, 0)) (lc0 : c0 ∈ ids (V)) (ha2 : isC a2) (m0 : XI V σ0) (l_a3 : 0 ≤ a3.toInt) (u_a3 : a3.toInt ≤ 5) (h9ret : ∀ (r : Int32) (σ' : Sg), XI V σ' → FX (fun id => False) (fun _ _ => False) σ0 σ' → Qk r σ') : K_X10_strides l V c0 a1 a2 a3 σ0 Qk := by
  refine e_X10_strides (fun M hl hV hN C => ?_)
  subst hl
  subst hV
  have ic0 : isMc ci0 := by rw [sc0]; decide
  have gc0 := kdM_ge ic0 hc0
  have oa2 : hid (a2 = 1 ∨ a2 = 17 ∨ a2 = 33) := ha2
  have f0 : FX (fun id => False) (fun _ _ => False) σ0 σ0 := FX_rf
  have t_1 := XI_c1 m0 (id := a2) (k := 9) (lim_C0_9 ha2)
  have t_2 := XI_c1 m0 (id := c0) (k := 1) (lim_M0_1 ic0 hc0)
  refine s_X10_strides_0 C hN sc0 hc0 lc0 ha2 ?_
  refine k_X0_strides (show ci0 = 0 ∨ ci0 = 10 from by omega) hc0 lc0 ha2 m0  (by omega) (by omega) (fun r3 σ2 mσ2 cσ2 => ?_)
  obtain rfl := FX_nil cσ2
  have t_3 : ((4 : Int32) * (gi σ0 c0 1)).toInt = 4 * (gi σ0 c0 1).toInt := i_mull rfl (by omega) (by omega)
  have t_4 : ((gi σ0 a2 9) - (((gi σ0 a2 9) / (4 : Int32)) * (4 : Int32))).toInt = (gi σ0 a2 9).toInt % 4 := i_rem (by omega) (by decide +kernel) rfl
  have t_5 : (((4 : Int32) * (gi σ0 c0 1)) + ((gi σ0 a2 9) - (((gi σ0 a2 9) / (4 : Int32)) * (4 : Int32)))).toInt = ((4 : Int32) * (gi σ0 c0 1)).toInt + ((gi σ0 a2 9) - (((gi σ0 a2 9) / (4 : Int32)) * (4 : Int32))).toInt := i_add (x := ((4 : Int32) * (gi σ0 c0 1))) (y := ((gi σ0 a2 9) - (((gi σ0 a2 9) / (4 : Int32)) * (4 : Int32)))) (by show (_ : Int) ≤ ((4 : Int32) * (gi σ0 c0 1)).toInt + ((gi σ0 a2 9) - (((gi σ0 a2 9) / (4 : Int32)) * (4 : Int32))).toInt; omega) (by show ((4 : Int32) * (gi σ0 c0 1)).toInt + ((gi σ0 a2 9) - (((gi σ0 a2 9) / (4 : Int32)) * (4 : Int32))).toInt ≤ (_ : Int); omega)
  have hv_6 : vp_in (((4 : Int32) * (gi σ0 c0 1)) + ((gi σ0 a2 9) - (gi σ0 a2 9) / (4 : Int32) * (4 : Int32))) 24 := vp_in_iff.mpr ⟨by omega, by omega⟩
  refine ⟨hv_6, ?_⟩
  exact h9ret (r3 + (gi σ0 (a2 + 7) (((4 : Int32) * (gi σ0 c0 1)) + ((gi σ0 a2 9) - (gi σ0 a2 9) / (4 : Int32) * (4 : Int32))).toNatClampNeg)) σ0 m0 f0
theorem k_KD_strides {l : Launch} {V : Vx} {ci c0 : Nat} {a1 : Int32} {a2 : Nat} {a3 : Int32} {σ0 : Sg} {Qk : Int32 → Sg → Prop} (s : isMc ci) (h : kd c0 = (10 + ci, 0)) (lc : c0 ∈ ids V) (ha2 : isC a2) (m0 : XI V σ0) (l3 : 0 ≤ a3.toInt) (u3 : a3.toInt ≤ 5) (h9ret : ∀ (r : Int32) (σ' : Sg), XI V σ' → FX (fun id => False) (fun _ _ => False) σ0 σ' → Qk r σ') : KD_strides l V ci c0 a1 a2 a3 σ0 Qk := by
  refine ⟨fun e => ?_, fun e => ?_, fun e => ?_, fun e => ?_, fun e => ?_, fun e => ?_, fun e => ?_⟩
  · exact k_X0_strides (by omega) h lc ha2 m0 l3 u3 h9ret
  · exact k_X3_strides (by omega) h lc ha2 m0 l3 u3 h9ret
  · exact k_X4_strides (by omega) h lc ha2 m0 l3 u3 h9ret
  · exact k_X6_strides (by omega) h lc ha2 m0 l3 u3 h9ret
  · exact k_X7_strides (by omega) h lc ha2 m0 l3 u3 h9ret
  · exact k_X8_strides (by omega) h lc ha2 m0 l3 u3 h9ret
  · exact k_X10_strides (by omega) h lc ha2 m0 l3 u3 h9ret
set_option maxRecDepth 100000 in
set_option maxHeartbeats 4000000 in
theorem k_X1_placeOf {l : Launch} {V : Vx} {c0 : Nat} {a1 : Int32} {σ0 : Sg} {Qk : Int32 → Sg → Prop} (hc0 : isC c0) (m0 : XI V σ0) (h9ret : ∀ (r : Int32) (σ' : Sg), XI V σ' → FX (fun id => False) (fun _ _ => False) σ0 σ' → (0 ≤ r.toInt) → (r.toInt ≤ 5) → (r.toInt = 0 ∨ r.toInt < (gi σ0 c0 3).toInt) → Qk r σ') : K_X1_placeOf l V c0 a1 σ0 Qk := by
  refine e_X1_placeOf (fun M hl hV hN C => ?_)
  subst hl
  subst hV
  have oc0 : hid (c0 = 1 ∨ c0 = 17 ∨ c0 = 33) := hc0
  have T : ∀ n : Nat, (∀ (x1 : Int32) (x2 : Int32) (σ : Sg), XI (mV M) σ → FX (fun id => False) (fun _ _ => False) σ0 σ → (0 ≤ x2.toInt) → (x2.toInt ≤ 5) → (x2.toInt = 0 ∨ x2.toInt < (gi σ c0 3).toInt) → (7 - x2.toInt).toNat < n → PS M 2 [(0, .ref c0), (1, .int x1), (2, .int x2)] [] σ (0, 0)) := by
    intro n
    induction n with
    | zero => exact fun _ _ _ _ _ _ _ _ h8 => absurd h8 (Nat.not_lt_zero _)
    | succ n ih =>
      have ih2 := ih
      · intro x1 x2 σ mσ fσ lx2 ux2 i0 hmu
        have k_1 : (gi σ c0 3).toInt = (gi σ0 c0 3).toInt := congrArg Int32.toInt (FX_i fσ id id)
        have t_2 := XI_c1 mσ (id := c0) (k := 3) (lim_C0_3 hc0)
        refine s_X1_placeOf_2 C hN hc0 ?_
        refine ⟨?_, ?_⟩
        · intro q_3
          have t_4 : ((gi σ c0 3) - (1 : Int32)).toInt = (gi σ c0 3).toInt - 1 := i_sub (x := (gi σ c0 3)) (y := (1 : Int32)) (by show (_ : Int) ≤ (gi σ c0 3).toInt - 1; omega) (by show (gi σ c0 3).toInt - 1 ≤ (_ : Int); omega)
          have b_5 : ((gi σ c0 3) - (1 : Int32)).toInt ≤ x2.toInt := Int32.le_iff_toInt_le.mp q_3
          exact h9ret x2 σ mσ fσ (by omega) (by omega) (by first | with_reducible assumption | with_reducible rfl | omega | assumption | rfl)
        · intro q_3
          have t_6 : ((gi σ c0 3) - (1 : Int32)).toInt = (gi σ c0 3).toInt - 1 := i_sub (x := (gi σ c0 3)) (y := (1 : Int32)) (by show (_ : Int) ≤ (gi σ c0 3).toInt - 1; omega) (by show (gi σ c0 3).toInt - 1 ≤ (_ : Int); omega)
          have b_7 : ¬ ((gi σ c0 3) - (1 : Int32)).toInt ≤ x2.toInt := fun h9 => q_3 (Int32.le_iff_toInt_le.mpr h9)
          have hv_8 : vp_in x2 6 := vp_in_iff.mpr ⟨by omega, by omega⟩
          refine ⟨hv_8, ?_⟩
          refine ⟨?_, ?_⟩
          · intro q_9
            have t_10 := XI_c1 mσ (id := (c0 + 2)) (k := x2.toNatClampNeg) (lim_C2 hc0 _)
            have w_11 := Int32.toInt_lt x1
            have w_12 := Int32.le_toInt x1
            have b_13 : (gi σ (c0 + 2) x2.toNatClampNeg).toInt = x1.toInt := congrArg Int32.toInt q_9
            exact h9ret x2 σ mσ fσ (by omega) (by omega) (by first | with_reducible assumption | with_reducible rfl | omega | assumption | rfl)
          · intro q_9
            have t_14 := XI_c1 mσ (id := (c0 + 2)) (k := x2.toNatClampNeg) (lim_C2 hc0 _)
            have w_15 := Int32.toInt_lt x1
            have w_16 := Int32.le_toInt x1
            have b_17 : ¬ (gi σ (c0 + 2) x2.toNatClampNeg).toInt = x1.toInt := fun h9 => q_9 (Int32.toInt_inj.mp h9)
            intro v4 ev4
            have t_18 : (x2 + (1 : Int32)).toInt = x2.toInt + 1 := i_add (x := x2) (y := (1 : Int32)) (by show (_ : Int) ≤ x2.toInt + 1; omega) (by show x2.toInt + 1 ≤ (_ : Int); omega)
            have t_19 : v4.toInt = (x2 + (1 : Int32)).toInt := congrArg Int32.toInt ev4
            exact ih2 x1 v4 σ mσ fσ (by omega) (by omega) (by first | with_reducible assumption | with_reducible rfl | omega | assumption | rfl) (by omega)
  have U2 := T 9
  have f0 : FX (fun id => False) (fun _ _ => False) σ0 σ0 := FX_rf
  have t_20 := XI_c1 m0 (id := c0) (k := 3) (lim_C0_3 hc0)
  refine s_X1_placeOf_0 C hN hc0 ?_
  have w_21 := Int32.toInt_lt a1
  have w_22 := Int32.le_toInt a1
  have z_23 : (0 : Int32).toInt = 0 := rfl
  exact U2 a1 (0 : Int32) σ0 m0 f0 (by omega) (by omega) (by first | with_reducible assumption | with_reducible rfl | omega | assumption | rfl) (by omega)
set_option maxRecDepth 100000 in
set_option maxHeartbeats 4000000 in
theorem k_X1_numbersOf {l : Launch} {V : Vx} {c0 : Nat} {a1 : Int32} {σ0 : Sg} {Qk : Nat → Sg → Prop} (hc0 : isC c0) (m0 : XI V σ0) (h9ret : ∀ (r : Nat) (σ' : Sg), XI V σ' → FX (fun id => False) (fun _ _ => False) σ0 σ' → (r = c0 + 3 ∨ r = c0 + 4 ∨ r = c0 + 5 ∨ r = c0 + 6) → Qk r σ') : K_X1_numbersOf l V c0 a1 σ0 Qk := by
  refine e_X1_numbersOf (fun M hl hV hN C => ?_)
  subst hl
  subst hV
  have oc0 : hid (c0 = 1 ∨ c0 = 17 ∨ c0 = 33) := hc0
  have f0 : FX (fun id => False) (fun _ _ => False) σ0 σ0 := FX_rf
  refine s_X1_numbersOf_0 C hN hc0 ?_
  refine ⟨?_, ?_, ?_, ?_⟩
  · intro q_1
    exact h9ret (c0 + 6) σ0 m0 f0 (by first | with_reducible assumption | with_reducible rfl | omega | assumption | rfl)
  · intro q_1
    exact h9ret (c0 + 3) σ0 m0 f0 (by first | with_reducible assumption | with_reducible rfl | omega | assumption | rfl)
  · intro q_1
    exact h9ret (c0 + 4) σ0 m0 f0 (by first | with_reducible assumption | with_reducible rfl | omega | assumption | rfl)
  · intro q_1
    exact h9ret (c0 + 5) σ0 m0 f0 (by first | with_reducible assumption | with_reducible rfl | omega | assumption | rfl)
set_option maxRecDepth 100000 in
set_option maxHeartbeats 4000000 in
theorem k_X1_paceAt {l : Launch} {V : Vx} {c0 : Nat} {a1 : Int32} {σ0 : Sg} {Qk : Int32 → Sg → Prop} (hc0 : isC c0) (m0 : XI V σ0) (nn_c0 : NN σ0 c0) (l_a1 : 0 ≤ a1.toInt) (u_a1 : a1.toInt ≤ 5) (pre0 : a1.toInt < (gi σ0 c0 3).toInt) (h9ret : ∀ (r : Int32) (σ' : Sg), XI V σ' → FX (fun id => id = c0 + 15) (fun _ _ => False) σ0 σ' → (NN σ' c0) → Qk r σ') : K_X1_paceAt l V c0 a1 σ0 Qk := by
  refine e_X1_paceAt (fun M hl hV hN C => ?_)
  subst hl
  subst hV
  have oc0 : hid (c0 = 1 ∨ c0 = 17 ∨ c0 = 33) := hc0
  have f0 : FX (fun id => id = c0 + 15) (fun _ _ => False) σ0 σ0 := FX_rf
  have t_1 := XI_c1 m0 (id := c0) (k := 1) (lim_C0_1 hc0)
  have t_2 := XI_c1 m0 (id := c0) (k := 3) (lim_C0_3 hc0)
  have t_3 := XI_c1 m0 (id := c0) (k := 9) (lim_C0_9 hc0)
  have ec9 := cl_eq (x := a1) (by omega)
  have eb9 := nn_c0.1 a1.toNatClampNeg (by omega)
  refine s_X1_paceAt_0 C hN hc0 ?_
  have hv_4 : vp_in a1 6 := vp_in_iff.mpr ⟨by omega, by omega⟩
  refine ⟨hv_4, ?_⟩
  intro v2 ev2
  have t_5 := XI_c1 m0 (id := (c0 + 2)) (k := a1.toNatClampNeg) (lim_C2 hc0 _)
  have t_6 : v2.toInt = (gi σ0 (c0 + 2) a1.toNatClampNeg).toInt := congrArg Int32.toInt ev2
  have z_7 : (0 : Int32).toInt = 0 := rfl
  have hv_8 : vp_in (0 : Int32) 6 := vp_in_iff.mpr ⟨by omega, by omega⟩
  refine ⟨hv_8, ?_⟩
  intro σ4 eσ4
  have mσ4 : XI (mV M) σ4 := by rw [eσ4]; exact XIs_n m0 (lim_C15 hc0 _)
  have fσ4 : FX (fun id => id = c0 + 15) (fun _ _ => False) σ0 σ4 := by rw [eσ4]; exact FX_si f0 (Or.inl (show c0 + 15 = c0 + 15 from rfl))
  have k_9 : (gi σ4 c0 1).toInt = (gi σ0 c0 1).toInt := by rw [eσ4]; exact congrArg Int32.toInt (gi_si_ne (Or.inl (by first | omega | (have uoc0 := un oc0; omega))))
  have k_10 : (gi σ4 c0 3).toInt = (gi σ0 c0 3).toInt := by rw [eσ4]; exact congrArg Int32.toInt (gi_si_ne (Or.inl (by first | omega | (have uoc0 := un oc0; omega))))
  have k_11 : (gi σ4 c0 9).toInt = (gi σ0 c0 9).toInt := by rw [eσ4]; exact congrArg Int32.toInt (gi_si_ne (Or.inl (by first | omega | (have uoc0 := un oc0; omega))))
  have nσ4_c0 : NN σ4 c0 := by rw [eσ4]; exact NN_si nn_c0 (by first | omega | (have uoc0 := un oc0; omega)) (fun h9 => absurd h9 (by first | omega | (have uoc0 := un oc0; omega)))
  have hv_12 : vp_in v2 6 := vp_in_iff.mpr ⟨by omega, by omega⟩
  have ec_13 := cl_eq (x := v2) (by omega)
  obtain ⟨μ6, ci6, eμ6, sμ6, hμ6, lμ6⟩ := XI_mow mσ4 hc0 (nσ4_c0.2 v2.toNatClampNeg (by omega))
  have gμ6 := kdM_ge sμ6 hμ6
  refine ⟨hv_12, μ6, ci6, eμ6, sμ6, hμ6, lμ6, ?_⟩
  have z_14 : (1 : Int32).toInt = 1 := rfl
  have hv_15 : vp_in (1 : Int32) 6 := vp_in_iff.mpr ⟨by omega, by omega⟩
  refine ⟨hv_15, ?_⟩
  intro σ8 eσ8
  have mσ8 : XI (mV M) σ8 := by rw [eσ8]; exact XIs_n mσ4 (lim_C15 hc0 _)
  have fσ8 : FX (fun id => id = c0 + 15) (fun _ _ => False) σ0 σ8 := by rw [eσ8]; exact FX_si fσ4 (Or.inl (show c0 + 15 = c0 + 15 from rfl))
  have k_16 : (gi σ8 c0 1).toInt = (gi σ4 c0 1).toInt := by rw [eσ8]; exact congrArg Int32.toInt (gi_si_ne (Or.inl (by first | omega | (have uoc0 := un oc0; omega))))
  have k_17 : (gi σ8 c0 3).toInt = (gi σ4 c0 3).toInt := by rw [eσ8]; exact congrArg Int32.toInt (gi_si_ne (Or.inl (by first | omega | (have uoc0 := un oc0; omega))))
  have k_18 : (gi σ8 c0 9).toInt = (gi σ4 c0 9).toInt := by rw [eσ8]; exact congrArg Int32.toInt (gi_si_ne (Or.inl (by first | omega | (have uoc0 := un oc0; omega))))
  have k_19 : (gi σ8 μ6 0).toInt = (gi σ4 μ6 0).toInt := by rw [eσ8]; exact congrArg Int32.toInt (gi_si_ne (Or.inl (by first | omega | (have uoc0 := un oc0; omega))))
  have nσ8_c0 : NN σ8 c0 := by rw [eσ8]; exact NN_si nσ4_c0 (by first | omega | (have uoc0 := un oc0; omega)) (fun h9 => absurd h9 (by first | omega | (have uoc0 := un oc0; omega)))
  have z_20 : (2 : Int32).toInt = 2 := rfl
  have hv_21 : vp_in (2 : Int32) 6 := vp_in_iff.mpr ⟨by omega, by omega⟩
  refine ⟨hv_21, ?_⟩
  intro σ10 eσ10
  have mσ10 : XI (mV M) σ10 := by rw [eσ10]; exact XIs_n mσ8 (lim_C15 hc0 _)
  have fσ10 : FX (fun id => id = c0 + 15) (fun _ _ => False) σ0 σ10 := by rw [eσ10]; exact FX_si fσ8 (Or.inl (show c0 + 15 = c0 + 15 from rfl))
  have k_22 : (gi σ10 c0 1).toInt = (gi σ8 c0 1).toInt := by rw [eσ10]; exact congrArg Int32.toInt (gi_si_ne (Or.inl (by first | omega | (have uoc0 := un oc0; omega))))
  have k_23 : (gi σ10 c0 3).toInt = (gi σ8 c0 3).toInt := by rw [eσ10]; exact congrArg Int32.toInt (gi_si_ne (Or.inl (by first | omega | (have uoc0 := un oc0; omega))))
  have k_24 : (gi σ10 c0 9).toInt = (gi σ8 c0 9).toInt := by rw [eσ10]; exact congrArg Int32.toInt (gi_si_ne (Or.inl (by first | omega | (have uoc0 := un oc0; omega))))
  have k_25 : (gi σ10 μ6 0).toInt = (gi σ8 μ6 0).toInt := by rw [eσ10]; exact congrArg Int32.toInt (gi_si_ne (Or.inl (by first | omega | (have uoc0 := un oc0; omega))))
  have nσ10_c0 : NN σ10 c0 := by rw [eσ10]; exact NN_si nσ8_c0 (by first | omega | (have uoc0 := un oc0; omega)) (fun h9 => absurd h9 (by first | omega | (have uoc0 := un oc0; omega)))
  refine ⟨hv_12, ?_⟩
  have z_26 : (3 : Int32).toInt = 3 := rfl
  have hv_27 : vp_in (3 : Int32) 6 := vp_in_iff.mpr ⟨by omega, by omega⟩
  refine ⟨hv_27, ?_⟩
  intro σ13 eσ13
  have mσ13 : XI (mV M) σ13 := by rw [eσ13]; exact XIs_n mσ10 (lim_C15 hc0 _)
  have fσ13 : FX (fun id => id = c0 + 15) (fun _ _ => False) σ0 σ13 := by rw [eσ13]; exact FX_si fσ10 (Or.inl (show c0 + 15 = c0 + 15 from rfl))
  have k_28 : (gi σ13 c0 1).toInt = (gi σ10 c0 1).toInt := by rw [eσ13]; exact congrArg Int32.toInt (gi_si_ne (Or.inl (by first | omega | (have uoc0 := un oc0; omega))))
  have k_29 : (gi σ13 c0 3).toInt = (gi σ10 c0 3).toInt := by rw [eσ13]; exact congrArg Int32.toInt (gi_si_ne (Or.inl (by first | omega | (have uoc0 := un oc0; omega))))
  have k_30 : (gi σ13 c0 9).toInt = (gi σ10 c0 9).toInt := by rw [eσ13]; exact congrArg Int32.toInt (gi_si_ne (Or.inl (by first | omega | (have uoc0 := un oc0; omega))))
  have k_31 : (gi σ13 μ6 0).toInt = (gi σ10 μ6 0).toInt := by rw [eσ13]; exact congrArg Int32.toInt (gi_si_ne (Or.inl (by first | omega | (have uoc0 := un oc0; omega))))
  have nσ13_c0 : NN σ13 c0 := by rw [eσ13]; exact NN_si nσ10_c0 (by first | omega | (have uoc0 := un oc0; omega)) (fun h9 => absurd h9 (by first | omega | (have uoc0 := un oc0; omega)))
  refine ⟨hv_12, ?_⟩
  have z_32 : (4 : Int32).toInt = 4 := rfl
  have hv_33 : vp_in (4 : Int32) 6 := vp_in_iff.mpr ⟨by omega, by omega⟩
  refine ⟨hv_33, ?_⟩
  intro σ16 eσ16
  have mσ16 : XI (mV M) σ16 := by rw [eσ16]; exact XIs_n mσ13 (lim_C15 hc0 _)
  have fσ16 : FX (fun id => id = c0 + 15) (fun _ _ => False) σ0 σ16 := by rw [eσ16]; exact FX_si fσ13 (Or.inl (show c0 + 15 = c0 + 15 from rfl))
  have k_34 : (gi σ16 c0 1).toInt = (gi σ13 c0 1).toInt := by rw [eσ16]; exact congrArg Int32.toInt (gi_si_ne (Or.inl (by first | omega | (have uoc0 := un oc0; omega))))
  have k_35 : (gi σ16 c0 3).toInt = (gi σ13 c0 3).toInt := by rw [eσ16]; exact congrArg Int32.toInt (gi_si_ne (Or.inl (by first | omega | (have uoc0 := un oc0; omega))))
  have k_36 : (gi σ16 c0 9).toInt = (gi σ13 c0 9).toInt := by rw [eσ16]; exact congrArg Int32.toInt (gi_si_ne (Or.inl (by first | omega | (have uoc0 := un oc0; omega))))
  have k_37 : (gi σ16 μ6 0).toInt = (gi σ13 μ6 0).toInt := by rw [eσ16]; exact congrArg Int32.toInt (gi_si_ne (Or.inl (by first | omega | (have uoc0 := un oc0; omega))))
  have nσ16_c0 : NN σ16 c0 := by rw [eσ16]; exact NN_si nσ13_c0 (by first | omega | (have uoc0 := un oc0; omega)) (fun h9 => absurd h9 (by first | omega | (have uoc0 := un oc0; omega)))
  have z_38 : (5 : Int32).toInt = 5 := rfl
  have hv_39 : vp_in (5 : Int32) 6 := vp_in_iff.mpr ⟨by omega, by omega⟩
  refine ⟨hv_39, ?_⟩
  intro σ18 eσ18
  have mσ18 : XI (mV M) σ18 := by rw [eσ18]; exact XIs_n mσ16 (lim_C15 hc0 _)
  have fσ18 : FX (fun id => id = c0 + 15) (fun _ _ => False) σ0 σ18 := by rw [eσ18]; exact FX_si fσ16 (Or.inl (show c0 + 15 = c0 + 15 from rfl))
  have k_40 : (gi σ18 c0 1).toInt = (gi σ16 c0 1).toInt := by rw [eσ18]; exact congrArg Int32.toInt (gi_si_ne (Or.inl (by first | omega | (have uoc0 := un oc0; omega))))
  have k_41 : (gi σ18 c0 3).toInt = (gi σ16 c0 3).toInt := by rw [eσ18]; exact congrArg Int32.toInt (gi_si_ne (Or.inl (by first | omega | (have uoc0 := un oc0; omega))))
  have k_42 : (gi σ18 c0 9).toInt = (gi σ16 c0 9).toInt := by rw [eσ18]; exact congrArg Int32.toInt (gi_si_ne (Or.inl (by first | omega | (have uoc0 := un oc0; omega))))
  have k_43 : (gi σ18 μ6 0).toInt = (gi σ16 μ6 0).toInt := by rw [eσ18]; exact congrArg Int32.toInt (gi_si_ne (Or.inl (by first | omega | (have uoc0 := un oc0; omega))))
  have nσ18_c0 : NN σ18 c0 := by rw [eσ18]; exact NN_si nσ16_c0 (by first | omega | (have uoc0 := un oc0; omega)) (fun h9 => absurd h9 (by first | omega | (have uoc0 := un oc0; omega)))
  obtain ⟨f19, ef19, hf19, lf19⟩ := (mσ18.2.1 _ hc0).1
  have gf19 : hid _ := kdF_ge hf19
  refine ⟨f19, ef19, hf19, lf19, ?_⟩
  refine k_X2_paceOf hf19 lf19 (kdC_15 hc0) (fxl (fxC_15 hc0)) mσ18  (by first | with_reducible assumption | with_reducible rfl | omega | assumption | rfl) (fun r21 σ20 mσ20 cσ20 => ?_)
  obtain rfl := FX_nil cσ20
  have t_44 := XI_c1 mσ18 (id := c0) (k := 1) (lim_C0_1 hc0)
  have t_45 := XI_c1 mσ18 (id := c0) (k := 3) (lim_C0_3 hc0)
  have t_46 := XI_c1 mσ18 (id := c0) (k := 9) (lim_C0_9 hc0)
  have t_47 := XI_c1 mσ18 (id := μ6) (k := 0) (lim_M0_0 sμ6 hμ6)
  exact h9ret r21 σ18 mσ18 fσ18 nσ18_c0
set_option maxRecDepth 100000 in
set_option maxHeartbeats 4000000 in
theorem k_X1_strideAt {l : Launch} {V : Vx} {c0 : Nat} {a1 : Int32} {σ0 : Sg} {Qk : Int32 → Sg → Prop} (hc0 : isC c0) (m0 : XI V σ0) (nn_c0 : NN σ0 c0) (l_a1 : 0 ≤ a1.toInt) (u_a1 : a1.toInt ≤ 5) (pre0 : a1.toInt < (gi σ0 c0 3).toInt) (h9ret : ∀ (r : Int32) (σ' : Sg), XI V σ' → FX (fun id => id = c0 + 15) (fun _ _ => False) σ0 σ' → (NN σ' c0) → Qk r σ') : K_X1_strideAt l V c0 a1 σ0 Qk := by
  refine e_X1_strideAt (fun M hl hV hN C => ?_)
  subst hl
  subst hV
  have oc0 : hid (c0 = 1 ∨ c0 = 17 ∨ c0 = 33) := hc0
  have f0 : FX (fun id => id = c0 + 15) (fun _ _ => False) σ0 σ0 := FX_rf
  have t_1 := XI_c1 m0 (id := c0) (k := 1) (lim_C0_1 hc0)
  have t_2 := XI_c1 m0 (id := c0) (k := 3) (lim_C0_3 hc0)
  have ec9 := cl_eq (x := a1) (by omega)
  have eb9 := nn_c0.1 a1.toNatClampNeg (by omega)
  refine s_X1_strideAt_0 C hN hc0 ?_
  have hv_3 : vp_in a1 6 := vp_in_iff.mpr ⟨by omega, by omega⟩
  refine ⟨hv_3, ?_⟩
  intro v2 ev2
  have t_4 := XI_c1 m0 (id := (c0 + 2)) (k := a1.toNatClampNeg) (lim_C2 hc0 _)
  have t_5 : v2.toInt = (gi σ0 (c0 + 2) a1.toNatClampNeg).toInt := congrArg Int32.toInt ev2
  have hv_6 : vp_in v2 6 := vp_in_iff.mpr ⟨by omega, by omega⟩
  have ec_7 := cl_eq (x := v2) (by omega)
  obtain ⟨μ4, ci4, eμ4, sμ4, hμ4, lμ4⟩ := XI_mow m0 hc0 (nn_c0.2 v2.toNatClampNeg (by omega))
  have gμ4 := kdM_ge sμ4 hμ4
  refine ⟨hv_6, μ4, ci4, eμ4, sμ4, hμ4, lμ4, ?_⟩
  refine k_X1_paceAt hc0 m0 nn_c0 (by omega) (by omega) (by first | with_reducible assumption | with_reducible rfl | omega | assumption | rfl) (fun r6 σ5 mσ5 cσ5 nσ5_c0 => ?_)
  have fσ5 : FX (fun id => id = c0 + 15) (fun _ _ => False) σ0 σ5 := FX_tr f0 cσ5 (fun x (h9 : x = c0 + 15) => (show x = c0 + 15 from h9)) (fun _ _ h9 => h9.elim)
  have k_8 : (gi σ5 c0 1).toInt = (gi σ0 c0 1).toInt := congrArg Int32.toInt (FX_i cσ5 (show ¬ (c0 = c0 + 15) from by first | omega | (have uoc0 := un oc0; omega)) id)
  have k_9 : (gi σ5 c0 3).toInt = (gi σ0 c0 3).toInt := congrArg Int32.toInt (FX_i cσ5 (show ¬ (c0 = c0 + 15) from by first | omega | (have uoc0 := un oc0; omega)) id)
  refine k_KD_strides sμ4 hμ4 lμ4 hc0 mσ5  (by omega) (by omega) (fun r8 σ7 mσ7 cσ7 => ?_)
  obtain rfl := FX_nil cσ7
  have t_10 := XI_c1 mσ5 (id := c0) (k := 1) (lim_C0_1 hc0)
  have t_11 := XI_c1 mσ5 (id := c0) (k := 3) (lim_C0_3 hc0)
  refine ⟨hv_6, ?_⟩
  refine ⟨?_, ?_⟩
  · intro q_12
    have w_13 := Int32.toInt_lt (gi σ5 (c0 + 4) v2.toNatClampNeg)
    have w_14 := Int32.le_toInt (gi σ5 (c0 + 4) v2.toNatClampNeg)
    have b_15 : ¬ (gi σ5 (c0 + 4) v2.toNatClampNeg).toInt = 0 := fun h9 => q_12 (Int32.toInt_inj.mp h9)
    exact h9ret r8 σ5 mσ5 fσ5 nσ5_c0
  · intro q_12
    have w_16 := Int32.toInt_lt (gi σ5 (c0 + 4) v2.toNatClampNeg)
    have w_17 := Int32.le_toInt (gi σ5 (c0 + 4) v2.toNatClampNeg)
    have b_18 : (gi σ5 (c0 + 4) v2.toNatClampNeg).toInt = 0 := congrArg Int32.toInt q_12
    exact h9ret (r8 / (2 : Int32)) σ5 mσ5 fσ5 nσ5_c0
set_option maxRecDepth 100000 in
set_option maxHeartbeats 4000000 in
theorem k_X1_roomAt {l : Launch} {V : Vx} {c0 : Nat} {a1 : Int32} {σ0 : Sg} {Qk : Int32 → Sg → Prop} (hc0 : isC c0) (m0 : XI V σ0) (l_a1 : 0 ≤ a1.toInt) (u_a1 : a1.toInt ≤ 5) (h9ret : ∀ (r : Int32) (σ' : Sg), XI V σ' → FX (fun id => False) (fun _ _ => False) σ0 σ' → Qk r σ') : K_X1_roomAt l V c0 a1 σ0 Qk := by
  refine e_X1_roomAt (fun M hl hV hN C => ?_)
  subst hl
  subst hV
  have oc0 : hid (c0 = 1 ∨ c0 = 17 ∨ c0 = 33) := hc0
  have T : ∀ n : Nat, (∀ (x2 : Int32) (x3 : Int32) (σ : Sg), XI (mV M) σ → FX (fun id => False) (fun _ _ => False) σ0 σ → (0 ≤ x2.toInt) → (x2.toInt ≤ 5) → 1 < n → PS M 54 [(0, .ref c0), (2, .int x2), (3, .int x3)] [] σ (0, 0)) := by
    intro n
    induction n with
    | zero => exact fun _ _ _ _ _ _ _ h8 => absurd h8 (Nat.not_lt_zero _)
    | succ n ih =>
      have ih54 := ih
      · intro x2 x3 σ mσ fσ lx2 ux2 hmu
        refine s_X1_roomAt_54 C hN hc0 ?_
        have hv_1 : vp_in x2 6 := vp_in_iff.mpr ⟨by omega, by omega⟩
        refine ⟨hv_1, ?_⟩
        have z_2 : (0 : Int32).toInt = 0 := rfl
        have w_3 := Int32.toInt_lt x3
        have w_4 := Int32.le_toInt x3
        have w_5 := Int32.toInt_lt (gi σ (c0 + 3) x2.toNatClampNeg)
        have w_6 := Int32.le_toInt (gi σ (c0 + 3) x2.toNatClampNeg)
        try have t_7 : (x3 - (gi σ (c0 + 3) x2.toNatClampNeg)).toInt = x3.toInt - (gi σ (c0 + 3) x2.toNatClampNeg).toInt := i_sub (x := x3) (y := (gi σ (c0 + 3) x2.toNatClampNeg)) (by show (_ : Int) ≤ x3.toInt - (gi σ (c0 + 3) x2.toNatClampNeg).toInt; omega) (by show x3.toInt - (gi σ (c0 + 3) x2.toNatClampNeg).toInt ≤ (_ : Int); omega)
        intro v2 ev2
        have t_8 := jmax_b (0 : Int32) (x3 - (gi σ (c0 + 3) x2.toNatClampNeg))
        have t_9 : v2.toInt = (jmax (0 : Int32) (x3 - (gi σ (c0 + 3) x2.toNatClampNeg))).toInt := congrArg Int32.toInt ev2
        exact h9ret v2 σ mσ fσ
  have U54 := T 9
  have f0 : FX (fun id => False) (fun _ _ => False) σ0 σ0 := FX_rf
  refine s_X1_roomAt_0 C hN hc0 ?_
  have hv_10 : vp_in a1 6 := vp_in_iff.mpr ⟨by omega, by omega⟩
  refine ⟨hv_10, ?_⟩
  intro v2 ev2
  have t_11 := XI_c1 m0 (id := (c0 + 2)) (k := a1.toNatClampNeg) (lim_C2 hc0 _)
  have t_12 : v2.toInt = (gi σ0 (c0 + 2) a1.toNatClampNeg).toInt := congrArg Int32.toInt ev2
  have hv_13 : vp_in v2 6 := vp_in_iff.mpr ⟨by omega, by omega⟩
  refine ⟨hv_13, ?_⟩
  refine ⟨hv_10, ?_⟩
  have w_14 := Int32.toInt_lt (gi σ0 (c0 + 3) v2.toNatClampNeg)
  have w_15 := Int32.le_toInt (gi σ0 (c0 + 3) v2.toNatClampNeg)
  have w_16 := Int32.toInt_lt (gi σ0 (c0 + 14) a1.toNatClampNeg)
  have w_17 := Int32.le_toInt (gi σ0 (c0 + 14) a1.toNatClampNeg)
  try have t_18 : ((gi σ0 (c0 + 3) v2.toNatClampNeg) + (gi σ0 (c0 + 14) a1.toNatClampNeg)).toInt = (gi σ0 (c0 + 3) v2.toNatClampNeg).toInt + (gi σ0 (c0 + 14) a1.toNatClampNeg).toInt := i_add (x := (gi σ0 (c0 + 3) v2.toNatClampNeg)) (y := (gi σ0 (c0 + 14) a1.toNatClampNeg)) (by show (_ : Int) ≤ (gi σ0 (c0 + 3) v2.toNatClampNeg).toInt + (gi σ0 (c0 + 14) a1.toNatClampNeg).toInt; omega) (by show (gi σ0 (c0 + 3) v2.toNatClampNeg).toInt + (gi σ0 (c0 + 14) a1.toNatClampNeg).toInt ≤ (_ : Int); omega)
  have z_19 : (9999 : Int32).toInt = 9999 := rfl
  intro v5 ev5
  have t_20 := jmin_b ((gi σ0 (c0 + 3) v2.toNatClampNeg) + (gi σ0 (c0 + 14) a1.toNatClampNeg)) (9999 : Int32)
  have t_21 : v5.toInt = (jmin ((gi σ0 (c0 + 3) v2.toNatClampNeg) + (gi σ0 (c0 + 14) a1.toNatClampNeg)) (9999 : Int32)).toInt := congrArg Int32.toInt ev5
  refine ⟨?_, ?_⟩
  · intro q_22
    have b_23 : a1.toInt ≤ 0 := Int32.le_iff_toInt_le.mp q_22
    have w_24 := Int32.toInt_lt v5
    have w_25 := Int32.le_toInt v5
    exact U54 v2 v5 σ0 m0 f0 (by omega) (by omega) (by omega)
  · intro q_22
    have b_26 : ¬ a1.toInt ≤ 0 := fun h9 => q_22 (Int32.le_iff_toInt_le.mpr h9)
    have t_27 : (a1 - (1 : Int32)).toInt = a1.toInt - 1 := i_sub (x := a1) (y := (1 : Int32)) (by show (_ : Int) ≤ a1.toInt - 1; omega) (by show a1.toInt - 1 ≤ (_ : Int); omega)
    have hv_28 : vp_in (a1 - (1 : Int32)) 6 := vp_in_iff.mpr ⟨by omega, by omega⟩
    refine ⟨hv_28, ?_⟩
    have t_29 := XI_c1 m0 (id := (c0 + 2)) (k := (a1 - (1 : Int32)).toNatClampNeg) (lim_C2 hc0 _)
    have hv_30 : vp_in (gi σ0 (c0 + 2) (a1 - (1 : Int32)).toNatClampNeg) 6 := vp_in_iff.mpr ⟨by omega, by omega⟩
    refine ⟨hv_30, ?_⟩
    refine k_X1_gap hc0 m0   (fun r10 σ9 mσ9 cσ9 => ?_)
    obtain rfl := FX_nil cσ9
    have w_31 := Int32.toInt_lt v5
    have w_32 := Int32.le_toInt v5
    have w_33 := Int32.toInt_lt (gi σ0 (c0 + 3) (gi σ0 (c0 + 2) (a1 - (1 : Int32)).toNatClampNeg).toNatClampNeg)
    have w_34 := Int32.le_toInt (gi σ0 (c0 + 3) (gi σ0 (c0 + 2) (a1 - (1 : Int32)).toNatClampNeg).toNatClampNeg)
    have w_35 := Int32.toInt_lt r10
    have w_36 := Int32.le_toInt r10
    try have t_37 : ((gi σ0 (c0 + 3) (gi σ0 (c0 + 2) (a1 - (1 : Int32)).toNatClampNeg).toNatClampNeg) - r10).toInt = (gi σ0 (c0 + 3) (gi σ0 (c0 + 2) (a1 - (1 : Int32)).toNatClampNeg).toNatClampNeg).toInt - r10.toInt := i_sub (x := (gi σ0 (c0 + 3) (gi σ0 (c0 + 2) (a1 - (1 : Int32)).toNatClampNeg).toNatClampNeg)) (y := r10) (by show (_ : Int) ≤ (gi σ0 (c0 + 3) (gi σ0 (c0 + 2) (a1 - (1 : Int32)).toNatClampNeg).toNatClampNeg).toInt - r10.toInt; omega) (by show (gi σ0 (c0 + 3) (gi σ0 (c0 + 2) (a1 - (1 : Int32)).toNatClampNeg).toNatClampNeg).toInt - r10.toInt ≤ (_ : Int); omega)
    intro v11 ev11
    have t_38 := jmin_b v5 ((gi σ0 (c0 + 3) (gi σ0 (c0 + 2) (a1 - (1 : Int32)).toNatClampNeg).toNatClampNeg) - r10)
    have t_39 : v11.toInt = (jmin v5 ((gi σ0 (c0 + 3) (gi σ0 (c0 + 2) (a1 - (1 : Int32)).toNatClampNeg).toNatClampNeg) - r10)).toInt := congrArg Int32.toInt ev11
    have w_40 := Int32.toInt_lt v11
    have w_41 := Int32.le_toInt v11
    exact U54 v2 v11 σ0 m0 f0 (by omega) (by omega) (by omega)
set_option maxRecDepth 100000 in
set_option maxHeartbeats 4000000 in
theorem k_X1_wears {l : Launch} {V : Vx} {c0 : Nat} {a1 : Int32} {a2 : Int32} {σ0 : Sg} {Qk : Sg → Prop} (hc0 : isC c0) (m0 : XI V σ0) (l_a1 : 0 ≤ a1.toInt) (u_a1 : a1.toInt ≤ 5) (h9ret : ∀ (σ' : Sg), XI V σ' → FX (fun id => id = c0 + 4 ∨ id = c0 + 5) (fun _ _ => False) σ0 σ' → Qk σ') : K_X1_wears l V c0 a1 a2 σ0 Qk := by
  refine e_X1_wears (fun M hl hV hN C => ?_)
  subst hl
  subst hV
  have oc0 : hid (c0 = 1 ∨ c0 = 17 ∨ c0 = 33) := hc0
  have f0 : FX (fun id => id = c0 + 4 ∨ id = c0 + 5) (fun _ _ => False) σ0 σ0 := FX_rf
  refine s_X1_wears_0 C hN hc0 ?_
  refine ⟨?_, ?_⟩
  · intro q_1
    have w_2 := Int32.toInt_lt a2
    have w_3 := Int32.le_toInt a2
    have b_4 : a2.toInt = 0 := congrArg Int32.toInt q_1
    have hv_5 : vp_in a1 6 := vp_in_iff.mpr ⟨by omega, by omega⟩
    refine ⟨hv_5, ?_⟩
    have z_6 : (0 : Int32).toInt = 0 := rfl
    have w_7 := Int32.toInt_lt (gi σ0 (c0 + 5) a1.toNatClampNeg)
    have w_8 := Int32.le_toInt (gi σ0 (c0 + 5) a1.toNatClampNeg)
    try have t_9 : ((gi σ0 (c0 + 5) a1.toNatClampNeg) - (2 : Int32)).toInt = (gi σ0 (c0 + 5) a1.toNatClampNeg).toInt - 2 := i_sub (x := (gi σ0 (c0 + 5) a1.toNatClampNeg)) (y := (2 : Int32)) (by show (_ : Int) ≤ (gi σ0 (c0 + 5) a1.toNatClampNeg).toInt - 2; omega) (by show (gi σ0 (c0 + 5) a1.toNatClampNeg).toInt - 2 ≤ (_ : Int); omega)
    intro v3 ev3
    have t_10 := jmax_b (0 : Int32) ((gi σ0 (c0 + 5) a1.toNatClampNeg) - (2 : Int32))
    have t_11 : v3.toInt = (jmax (0 : Int32) ((gi σ0 (c0 + 5) a1.toNatClampNeg) - (2 : Int32))).toInt := congrArg Int32.toInt ev3
    refine ⟨hv_5, ?_⟩
    intro σ5 eσ5
    have mσ5 : XI (mV M) σ5 := by rw [eσ5]; exact XIs_n m0 (lim_C5 hc0 _)
    have fσ5 : FX (fun id => id = c0 + 4 ∨ id = c0 + 5) (fun _ _ => False) σ0 σ5 := by rw [eσ5]; exact FX_si f0 (Or.inl (show c0 + 5 = c0 + 4 ∨ c0 + 5 = c0 + 5 from Or.inr (rfl)))
    exact h9ret σ5 mσ5 fσ5
  · intro q_1
    have w_12 := Int32.toInt_lt a2
    have w_13 := Int32.le_toInt a2
    have b_14 : ¬ a2.toInt = 0 := fun h9 => q_1 (Int32.toInt_inj.mp h9)
    have hv_15 : vp_in a1 6 := vp_in_iff.mpr ⟨by omega, by omega⟩
    refine ⟨hv_15, ?_⟩
    have z_16 : (0 : Int32).toInt = 0 := rfl
    have w_17 := Int32.toInt_lt (gi σ0 (c0 + 4) a1.toNatClampNeg)
    have w_18 := Int32.le_toInt (gi σ0 (c0 + 4) a1.toNatClampNeg)
    try have t_19 : ((gi σ0 (c0 + 4) a1.toNatClampNeg) - (1 : Int32)).toInt = (gi σ0 (c0 + 4) a1.toNatClampNeg).toInt - 1 := i_sub (x := (gi σ0 (c0 + 4) a1.toNatClampNeg)) (y := (1 : Int32)) (by show (_ : Int) ≤ (gi σ0 (c0 + 4) a1.toNatClampNeg).toInt - 1; omega) (by show (gi σ0 (c0 + 4) a1.toNatClampNeg).toInt - 1 ≤ (_ : Int); omega)
    intro v7 ev7
    have t_20 := jmax_b (0 : Int32) ((gi σ0 (c0 + 4) a1.toNatClampNeg) - (1 : Int32))
    have t_21 : v7.toInt = (jmax (0 : Int32) ((gi σ0 (c0 + 4) a1.toNatClampNeg) - (1 : Int32))).toInt := congrArg Int32.toInt ev7
    refine ⟨hv_15, ?_⟩
    intro σ9 eσ9
    have mσ9 : XI (mV M) σ9 := by rw [eσ9]; exact XIs_n m0 (lim_C4 hc0 _)
    have fσ9 : FX (fun id => id = c0 + 4 ∨ id = c0 + 5) (fun _ _ => False) σ0 σ9 := by rw [eσ9]; exact FX_si f0 (Or.inl (show c0 + 4 = c0 + 4 ∨ c0 + 4 = c0 + 5 from Or.inl (rfl)))
    refine ⟨hv_15, ?_⟩
    obtain ⟨f11, ef11, hf11, lf11⟩ := (mσ9.2.1 _ hc0).1
    have gf11 : hid _ := kdF_ge hf11
    refine ⟨f11, ef11, hf11, lf11, ?_⟩
    have z_22 : (99 : Int32).toInt = 99 := rfl
    have w_23 := Int32.toInt_lt (gi σ9 (c0 + 5) a1.toNatClampNeg)
    have w_24 := Int32.le_toInt (gi σ9 (c0 + 5) a1.toNatClampNeg)
    have w_25 := Int32.toInt_lt (gi σ9 f11 1)
    have w_26 := Int32.le_toInt (gi σ9 f11 1)
    try have t_27 : ((gi σ9 (c0 + 5) a1.toNatClampNeg) + (gi σ9 f11 1)).toInt = (gi σ9 (c0 + 5) a1.toNatClampNeg).toInt + (gi σ9 f11 1).toInt := i_add (x := (gi σ9 (c0 + 5) a1.toNatClampNeg)) (y := (gi σ9 f11 1)) (by show (_ : Int) ≤ (gi σ9 (c0 + 5) a1.toNatClampNeg).toInt + (gi σ9 f11 1).toInt; omega) (by show (gi σ9 (c0 + 5) a1.toNatClampNeg).toInt + (gi σ9 f11 1).toInt ≤ (_ : Int); omega)
    intro v12 ev12
    have t_28 := jmin_b (99 : Int32) ((gi σ9 (c0 + 5) a1.toNatClampNeg) + (gi σ9 f11 1))
    have t_29 : v12.toInt = (jmin (99 : Int32) ((gi σ9 (c0 + 5) a1.toNatClampNeg) + (gi σ9 f11 1))).toInt := congrArg Int32.toInt ev12
    refine ⟨hv_15, ?_⟩
    intro σ14 eσ14
    have mσ14 : XI (mV M) σ14 := by rw [eσ14]; exact XIs_n mσ9 (lim_C5 hc0 _)
    have fσ14 : FX (fun id => id = c0 + 4 ∨ id = c0 + 5) (fun _ _ => False) σ0 σ14 := by rw [eσ14]; exact FX_si fσ9 (Or.inl (show c0 + 5 = c0 + 4 ∨ c0 + 5 = c0 + 5 from Or.inr (rfl)))
    have k_30 : (gi σ14 f11 1).toInt = (gi σ9 f11 1).toInt := by rw [eσ14]; exact congrArg Int32.toInt (gi_si_ne (Or.inl (by first | omega | (have uoc0 := un oc0; have ugf11 := un gf11; omega))))
    exact h9ret σ14 mσ14 fσ14
set_option maxRecDepth 100000 in
set_option maxHeartbeats 4000000 in
theorem k_X1_goesMinute {l : Launch} {V : Vx} {c0 : Nat} {σ0 : Sg} {Qk : Int32 → Sg → Prop} (hc0 : isC c0) (m0 : XI V σ0) (nn_c0 : NN σ0 c0) (pre0 : (gi σ0 c0 9).toInt ≤ 19900) (h9ret : ∀ (r : Int32) (σ' : Sg), XI V σ' → FX (fun id => id = c0 + 14 ∨ id = c0 + 15 ∨ id = c0 + 3 ∨ id = c0 + 4 ∨ id = c0 + 5 ∨ id = c0 + 6) (fun id k => (id = c0 ∧ k = 9)) σ0 σ' → (NN σ' c0) → ((gi σ' c0 9).toInt = (gi σ0 c0 9).toInt + 1) → Qk r σ') : K_X1_goesMinute l V c0 σ0 Qk := by
  refine e_X1_goesMinute (fun M hl hV hN C => ?_)
  subst hl
  subst hV
  have oc0 : hid (c0 = 1 ∨ c0 = 17 ∨ c0 = 33) := hc0
  have T : ∀ n : Nat, (∀ (x1 : Int32) (σ : Sg), XI (mV M) σ → FX (fun id => id = c0 + 14 ∨ id = c0 + 15 ∨ id = c0 + 3 ∨ id = c0 + 4 ∨ id = c0 + 5 ∨ id = c0 + 6) (fun id k => (id = c0 ∧ k = 9)) σ0 σ → NN σ c0 → (0 ≤ x1.toInt) → (x1.toInt ≤ 6) → ((gi σ c0 9).toInt = (gi σ0 c0 9).toInt) → (7 - x1.toInt).toNat + 200 < n → PS M 2 [(0, .ref c0), (1, .int x1)] [] σ (0, 0)) ∧ (∀ (x1 : Int32) (x2 : Int32) (σ : Sg), XI (mV M) σ → FX (fun id => id = c0 + 14 ∨ id = c0 + 15 ∨ id = c0 + 3 ∨ id = c0 + 4 ∨ id = c0 + 5 ∨ id = c0 + 6) (fun id k => (id = c0 ∧ k = 9)) σ0 σ → NN σ c0 → (0 ≤ x2.toInt) → (x2.toInt ≤ 6) → ((gi σ c0 9).toInt = (gi σ0 c0 9).toInt) → (7 - x2.toInt).toNat * 10 + 5 < n → PS M 31 [(0, .ref c0), (1, .int x1), (2, .int x2)] [] σ (0, 0)) ∧ (∀ (x1 : Int32) (x2 : Int32) (x3 : Int32) (x4 : Int32) (σ : Sg), XI (mV M) σ → FX (fun id => id = c0 + 14 ∨ id = c0 + 15 ∨ id = c0 + 3 ∨ id = c0 + 4 ∨ id = c0 + 5 ∨ id = c0 + 6) (fun id k => (id = c0 ∧ k = 9)) σ0 σ → NN σ c0 → (0 ≤ x2.toInt) → (x2.toInt ≤ 5) → (0 ≤ x3.toInt) → (x3.toInt ≤ 5) → ((gi σ c0 9).toInt = (gi σ0 c0 9).toInt) → (7 - x2.toInt).toNat * 10 < n → PS M 95 [(0, .ref c0), (1, .int x1), (2, .int x2), (3, .int x3), (4, .int x4)] [] σ (0, 0)) := by
    intro n
    induction n with
    | zero => exact ⟨fun _ _ _ _ _ _ _ _ h8 => absurd h8 (Nat.not_lt_zero _), fun _ _ _ _ _ _ _ _ _ h8 => absurd h8 (Nat.not_lt_zero _), fun _ _ _ _ _ _ _ _ _ _ _ _ _ h8 => absurd h8 (Nat.not_lt_zero _)⟩
    | succ n ih =>
      obtain ⟨ih2, ih31, ih95⟩ := ih
      refine ⟨?_, ?_, ?_⟩
      · intro x1 σ mσ fσ nσ_c0 lx1 ux1 i0 hmu
        have k_1 : (gi σ c0 3).toInt = (gi σ0 c0 3).toInt := congrArg Int32.toInt (FX_i fσ (show ¬ (c0 = c0 + 14 ∨ c0 = c0 + 15 ∨ c0 = c0 + 3 ∨ c0 = c0 + 4 ∨ c0 = c0 + 5 ∨ c0 = c0 + 6) from by first | omega | (have uoc0 := un oc0; omega)) (show ¬ ((c0 = c0 ∧ 3 = 9)) from by first | omega | (have uoc0 := un oc0; omega)))
        have t_2 := XI_c1 mσ (id := c0) (k := 3) (lim_C0_3 hc0)
        have t_3 := XI_c1 mσ (id := c0) (k := 9) (lim_C0_9 hc0)
        refine s_X1_goesMinute_2 C hN hc0 ?_
        refine ⟨?_, ?_⟩
        · intro q_4
          have b_5 : (gi σ c0 3).toInt ≤ x1.toInt := Int32.le_iff_toInt_le.mp q_4
          have z_6 : (0 : Int32).toInt = 0 := rfl
          exact ih31 (0 : Int32) (0 : Int32) σ mσ fσ nσ_c0 (by omega) (by omega) (by first | with_reducible assumption | with_reducible rfl | omega | assumption | rfl) (by omega)
        · intro q_4
          have b_7 : ¬ (gi σ c0 3).toInt ≤ x1.toInt := fun h9 => q_4 (Int32.le_iff_toInt_le.mpr h9)
          refine k_X1_strideAt hc0 mσ nσ_c0 (by omega) (by omega) (by first | with_reducible assumption | with_reducible rfl | omega | assumption | rfl) (fun r3 σ2 mσ2 cσ2 nσ2_c0 => ?_)
          have fσ2 : FX (fun id => id = c0 + 14 ∨ id = c0 + 15 ∨ id = c0 + 3 ∨ id = c0 + 4 ∨ id = c0 + 5 ∨ id = c0 + 6) (fun id k => (id = c0 ∧ k = 9)) σ0 σ2 := FX_tr fσ cσ2 (fun x (h9 : x = c0 + 15) => (show x = c0 + 14 ∨ x = c0 + 15 ∨ x = c0 + 3 ∨ x = c0 + 4 ∨ x = c0 + 5 ∨ x = c0 + 6 from Or.inr (Or.inl (h9)))) (fun _ _ h9 => h9.elim)
          have k_8 : (gi σ2 c0 3).toInt = (gi σ c0 3).toInt := congrArg Int32.toInt (FX_i cσ2 (show ¬ (c0 = c0 + 15) from by first | omega | (have uoc0 := un oc0; omega)) id)
          have k_9 : (gi σ2 c0 9).toInt = (gi σ c0 9).toInt := congrArg Int32.toInt (FX_i cσ2 (show ¬ (c0 = c0 + 15) from by first | omega | (have uoc0 := un oc0; omega)) id)
          have hv_10 : vp_in x1 6 := vp_in_iff.mpr ⟨by omega, by omega⟩
          refine ⟨hv_10, ?_⟩
          intro σ5 eσ5
          have mσ5 : XI (mV M) σ5 := by rw [eσ5]; exact XIs_n mσ2 (lim_C14 hc0 _)
          have fσ5 : FX (fun id => id = c0 + 14 ∨ id = c0 + 15 ∨ id = c0 + 3 ∨ id = c0 + 4 ∨ id = c0 + 5 ∨ id = c0 + 6) (fun id k => (id = c0 ∧ k = 9)) σ0 σ5 := by rw [eσ5]; exact FX_si fσ2 (Or.inl (show c0 + 14 = c0 + 14 ∨ c0 + 14 = c0 + 15 ∨ c0 + 14 = c0 + 3 ∨ c0 + 14 = c0 + 4 ∨ c0 + 14 = c0 + 5 ∨ c0 + 14 = c0 + 6 from Or.inl (rfl)))
          have k_11 : (gi σ5 c0 3).toInt = (gi σ2 c0 3).toInt := by rw [eσ5]; exact congrArg Int32.toInt (gi_si_ne (Or.inl (by first | omega | (have uoc0 := un oc0; omega))))
          have k_12 : (gi σ5 c0 9).toInt = (gi σ2 c0 9).toInt := by rw [eσ5]; exact congrArg Int32.toInt (gi_si_ne (Or.inl (by first | omega | (have uoc0 := un oc0; omega))))
          have nσ5_c0 : NN σ5 c0 := by rw [eσ5]; exact NN_si nσ2_c0 (by first | omega | (have uoc0 := un oc0; omega)) (fun h9 => absurd h9 (by first | omega | (have uoc0 := un oc0; omega)))
          intro v6 ev6
          have t_13 : (x1 + (1 : Int32)).toInt = x1.toInt + 1 := i_add (x := x1) (y := (1 : Int32)) (by show (_ : Int) ≤ x1.toInt + 1; omega) (by show x1.toInt + 1 ≤ (_ : Int); omega)
          have t_14 : v6.toInt = (x1 + (1 : Int32)).toInt := congrArg Int32.toInt ev6
          exact ih2 v6 σ5 mσ5 fσ5 nσ5_c0 (by omega) (by omega) (by first | with_reducible assumption | with_reducible rfl | omega | assumption | rfl) (by omega)
      · intro x1 x2 σ mσ fσ nσ_c0 lx2 ux2 i0 hmu
        have k_15 : (gi σ c0 3).toInt = (gi σ0 c0 3).toInt := congrArg Int32.toInt (FX_i fσ (show ¬ (c0 = c0 + 14 ∨ c0 = c0 + 15 ∨ c0 = c0 + 3 ∨ c0 = c0 + 4 ∨ c0 = c0 + 5 ∨ c0 = c0 + 6) from by first | omega | (have uoc0 := un oc0; omega)) (show ¬ ((c0 = c0 ∧ 3 = 9)) from by first | omega | (have uoc0 := un oc0; omega)))
        have t_16 := XI_c1 mσ (id := c0) (k := 3) (lim_C0_3 hc0)
        have t_17 := XI_c1 mσ (id := c0) (k := 9) (lim_C0_9 hc0)
        refine s_X1_goesMinute_31 C hN hc0 ?_
        refine ⟨?_, ?_⟩
        · intro q_18
          have b_19 : (gi σ c0 3).toInt ≤ x2.toInt := Int32.le_iff_toInt_le.mp q_18
          intro σ2 eσ2
          have t_20 : ((gi σ c0 9) + (1 : Int32)).toInt = (gi σ c0 9).toInt + 1 := i_add (x := (gi σ c0 9)) (y := (1 : Int32)) (by show (_ : Int) ≤ (gi σ c0 9).toInt + 1; omega) (by show (gi σ c0 9).toInt + 1 ≤ (_ : Int); omega)
          have mσ2 : XI (mV M) σ2 := by rw [eσ2]; exact XIs_b mσ (lim_C0_9 hc0) (by omega) (by omega)
          have fσ2 : FX (fun id => id = c0 + 14 ∨ id = c0 + 15 ∨ id = c0 + 3 ∨ id = c0 + 4 ∨ id = c0 + 5 ∨ id = c0 + 6) (fun id k => (id = c0 ∧ k = 9)) σ0 σ2 := by rw [eσ2]; exact FX_si fσ (Or.inr (show (c0 = c0 ∧ 9 = 9) from ⟨rfl, rfl⟩))
          have k_21 : (gi σ2 c0 3).toInt = (gi σ c0 3).toInt := gk_r eσ2 rfl
          have k_22 : (gi σ2 c0 9).toInt = ((gi σ c0 9) + (1 : Int32)).toInt := by rw [eσ2]; exact congrArg Int32.toInt gi_si_eq
          have nσ2_c0 : NN σ2 c0 := by rw [eσ2]; exact NN_si nσ_c0 (by first | omega | (have uoc0 := un oc0; omega)) (fun _ => by decide +kernel)
          have w_23 := Int32.toInt_lt x1
          have w_24 := Int32.le_toInt x1
          exact h9ret x1 σ2 mσ2 fσ2 nσ2_c0 (by first | with_reducible assumption | with_reducible rfl | omega | assumption | rfl)
        · intro q_18
          have b_25 : ¬ (gi σ c0 3).toInt ≤ x2.toInt := fun h9 => q_18 (Int32.le_iff_toInt_le.mpr h9)
          have hv_26 : vp_in x2 6 := vp_in_iff.mpr ⟨by omega, by omega⟩
          refine ⟨hv_26, ?_⟩
          intro v4 ev4
          have t_27 := XI_c1 mσ (id := (c0 + 2)) (k := x2.toNatClampNeg) (lim_C2 hc0 _)
          have t_28 : v4.toInt = (gi σ (c0 + 2) x2.toNatClampNeg).toInt := congrArg Int32.toInt ev4
          have hv_29 : vp_in v4 6 := vp_in_iff.mpr ⟨by omega, by omega⟩
          refine ⟨hv_29, ?_⟩
          refine ⟨?_, ?_⟩
          · intro q_30
            have w_31 := Int32.toInt_lt (gi σ (c0 + 6) v4.toNatClampNeg)
            have w_32 := Int32.le_toInt (gi σ (c0 + 6) v4.toNatClampNeg)
            have b_33 : (gi σ (c0 + 6) v4.toNatClampNeg).toInt ≤ 0 := Int32.le_iff_toInt_le.mp q_30
            refine k_X1_roomAt hc0 mσ  (by omega) (by omega) (fun r8 σ7 mσ7 cσ7 => ?_)
            obtain rfl := FX_nil cσ7
            refine ⟨hv_26, ?_⟩
            refine ⟨?_, ?_⟩
            · intro q_34
              have w_35 := Int32.toInt_lt (gi σ (c0 + 14) x2.toNatClampNeg)
              have w_36 := Int32.le_toInt (gi σ (c0 + 14) x2.toNatClampNeg)
              have w_37 := Int32.toInt_lt r8
              have w_38 := Int32.le_toInt r8
              have b_39 : (gi σ (c0 + 14) x2.toNatClampNeg).toInt ≤ r8.toInt := Int32.le_iff_toInt_le.mp q_34
              have w_40 := Int32.toInt_lt x1
              have w_41 := Int32.le_toInt x1
              exact ih95 x1 x2 v4 r8 σ mσ fσ nσ_c0 (by omega) (by omega) (by omega) (by omega) (by first | with_reducible assumption | with_reducible rfl | omega | assumption | rfl) (by omega)
            · intro q_34
              have w_42 := Int32.toInt_lt (gi σ (c0 + 14) x2.toNatClampNeg)
              have w_43 := Int32.le_toInt (gi σ (c0 + 14) x2.toNatClampNeg)
              have w_44 := Int32.toInt_lt r8
              have w_45 := Int32.le_toInt r8
              have b_46 : ¬ (gi σ (c0 + 14) x2.toNatClampNeg).toInt ≤ r8.toInt := fun h9 => q_34 (Int32.le_iff_toInt_le.mpr h9)
              intro v11 ev11
              have w_47 := Int32.toInt_lt v11
              have w_48 := Int32.le_toInt v11
              exact ih95 v11 x2 v4 r8 σ mσ fσ nσ_c0 (by omega) (by omega) (by omega) (by omega) (by first | with_reducible assumption | with_reducible rfl | omega | assumption | rfl) (by omega)
          · intro q_30
            have w_49 := Int32.toInt_lt (gi σ (c0 + 6) v4.toNatClampNeg)
            have w_50 := Int32.le_toInt (gi σ (c0 + 6) v4.toNatClampNeg)
            have b_51 : ¬ (gi σ (c0 + 6) v4.toNatClampNeg).toInt ≤ 0 := fun h9 => q_30 (Int32.le_iff_toInt_le.mpr h9)
            refine ⟨hv_29, ?_⟩
            refine ⟨hv_29, ?_⟩
            intro σ14 eσ14
            have mσ14 : XI (mV M) σ14 := by rw [eσ14]; exact XIs_n mσ (lim_C6 hc0 _)
            have fσ14 : FX (fun id => id = c0 + 14 ∨ id = c0 + 15 ∨ id = c0 + 3 ∨ id = c0 + 4 ∨ id = c0 + 5 ∨ id = c0 + 6) (fun id k => (id = c0 ∧ k = 9)) σ0 σ14 := by rw [eσ14]; exact FX_si fσ (Or.inl (show c0 + 6 = c0 + 14 ∨ c0 + 6 = c0 + 15 ∨ c0 + 6 = c0 + 3 ∨ c0 + 6 = c0 + 4 ∨ c0 + 6 = c0 + 5 ∨ c0 + 6 = c0 + 6 from Or.inr (Or.inr (Or.inr (Or.inr (Or.inr (rfl)))))))
            have k_52 : (gi σ14 c0 3).toInt = (gi σ c0 3).toInt := by rw [eσ14]; exact congrArg Int32.toInt (gi_si_ne (Or.inl (by first | omega | (have uoc0 := un oc0; omega))))
            have k_53 : (gi σ14 c0 9).toInt = (gi σ c0 9).toInt := by rw [eσ14]; exact congrArg Int32.toInt (gi_si_ne (Or.inl (by first | omega | (have uoc0 := un oc0; omega))))
            have nσ14_c0 : NN σ14 c0 := by rw [eσ14]; exact NN_si nσ_c0 (by first | omega | (have uoc0 := un oc0; omega)) (fun h9 => absurd h9 (by first | omega | (have uoc0 := un oc0; omega)))
            have w_54 := Int32.toInt_lt x1
            have w_55 := Int32.le_toInt x1
            have z_56 : (0 : Int32).toInt = 0 := rfl
            exact ih95 x1 x2 v4 (0 : Int32) σ14 mσ14 fσ14 nσ14_c0 (by omega) (by omega) (by omega) (by omega) (by first | with_reducible assumption | with_reducible rfl | omega | assumption | rfl) (by omega)
      · intro x1 x2 x3 x4 σ mσ fσ nσ_c0 lx2 ux2 lx3 ux3 i0 hmu
        have k_57 : (gi σ c0 3).toInt = (gi σ0 c0 3).toInt := congrArg Int32.toInt (FX_i fσ (show ¬ (c0 = c0 + 14 ∨ c0 = c0 + 15 ∨ c0 = c0 + 3 ∨ c0 = c0 + 4 ∨ c0 = c0 + 5 ∨ c0 = c0 + 6) from by first | omega | (have uoc0 := un oc0; omega)) (show ¬ ((c0 = c0 ∧ 3 = 9)) from by first | omega | (have uoc0 := un oc0; omega)))
        have t_58 := XI_c1 mσ (id := c0) (k := 3) (lim_C0_3 hc0)
        have t_59 := XI_c1 mσ (id := c0) (k := 9) (lim_C0_9 hc0)
        refine s_X1_goesMinute_95 C hN hc0 ?_
        have hv_60 : vp_in x3 6 := vp_in_iff.mpr ⟨by omega, by omega⟩
        refine ⟨hv_60, ?_⟩
        refine ⟨hv_60, ?_⟩
        intro σ3 eσ3
        have mσ3 : XI (mV M) σ3 := by rw [eσ3]; exact XIs_n mσ (lim_C3 hc0 _)
        have fσ3 : FX (fun id => id = c0 + 14 ∨ id = c0 + 15 ∨ id = c0 + 3 ∨ id = c0 + 4 ∨ id = c0 + 5 ∨ id = c0 + 6) (fun id k => (id = c0 ∧ k = 9)) σ0 σ3 := by rw [eσ3]; exact FX_si fσ (Or.inl (show c0 + 3 = c0 + 14 ∨ c0 + 3 = c0 + 15 ∨ c0 + 3 = c0 + 3 ∨ c0 + 3 = c0 + 4 ∨ c0 + 3 = c0 + 5 ∨ c0 + 3 = c0 + 6 from Or.inr (Or.inr (Or.inl (rfl)))))
        have k_61 : (gi σ3 c0 3).toInt = (gi σ c0 3).toInt := by rw [eσ3]; exact congrArg Int32.toInt (gi_si_ne (Or.inl (by first | omega | (have uoc0 := un oc0; omega))))
        have k_62 : (gi σ3 c0 9).toInt = (gi σ c0 9).toInt := by rw [eσ3]; exact congrArg Int32.toInt (gi_si_ne (Or.inl (by first | omega | (have uoc0 := un oc0; omega))))
        have nσ3_c0 : NN σ3 c0 := by rw [eσ3]; exact NN_si nσ_c0 (by first | omega | (have uoc0 := un oc0; omega)) (fun h9 => absurd h9 (by first | omega | (have uoc0 := un oc0; omega)))
        refine ⟨?_, ?_⟩
        · intro q_63
          have w_64 := Int32.toInt_lt x4
          have w_65 := Int32.le_toInt x4
          have b_66 : x4.toInt ≤ 0 := Int32.le_iff_toInt_le.mp q_63
          have z_67 : (0 : Int32).toInt = 0 := rfl
          refine k_X1_wears hc0 mσ3  (by omega) (by omega) (fun σ5 mσ5 cσ5 => ?_)
          have fσ5 : FX (fun id => id = c0 + 14 ∨ id = c0 + 15 ∨ id = c0 + 3 ∨ id = c0 + 4 ∨ id = c0 + 5 ∨ id = c0 + 6) (fun id k => (id = c0 ∧ k = 9)) σ0 σ5 := FX_tr fσ3 cσ5 (fun x (h9 : x = c0 + 4 ∨ x = c0 + 5) => h9.elim (fun e9 => (show x = c0 + 14 ∨ x = c0 + 15 ∨ x = c0 + 3 ∨ x = c0 + 4 ∨ x = c0 + 5 ∨ x = c0 + 6 from Or.inr (Or.inr (Or.inr (Or.inl (e9)))))) (fun h9 => (show x = c0 + 14 ∨ x = c0 + 15 ∨ x = c0 + 3 ∨ x = c0 + 4 ∨ x = c0 + 5 ∨ x = c0 + 6 from Or.inr (Or.inr (Or.inr (Or.inr (Or.inl (h9)))))))) (fun _ _ h9 => h9.elim)
          have k_68 : (gi σ5 c0 3).toInt = (gi σ3 c0 3).toInt := congrArg Int32.toInt (FX_i cσ5 (show ¬ (c0 = c0 + 4 ∨ c0 = c0 + 5) from by first | omega | (have uoc0 := un oc0; omega)) id)
          have k_69 : (gi σ5 c0 9).toInt = (gi σ3 c0 9).toInt := congrArg Int32.toInt (FX_i cσ5 (show ¬ (c0 = c0 + 4 ∨ c0 = c0 + 5) from by first | omega | (have uoc0 := un oc0; omega)) id)
          have nσ5_c0 : NN σ5 c0 := NN_fx nσ3_c0 cσ5 (show ¬ (c0 = c0 + 4 ∨ c0 = c0 + 5) from by first | omega | (have uoc0 := un oc0; omega)) (show ¬ (c0 + 1 = c0 + 4 ∨ c0 + 1 = c0 + 5) from by first | omega | (have uoc0 := un oc0; omega)) (show ¬ (c0 + 2 = c0 + 4 ∨ c0 + 2 = c0 + 5) from by first | omega | (have uoc0 := un oc0; omega)) id id (fun _ => id) (fun _ => id)
          intro v6 ev6
          have t_70 : (x2 + (1 : Int32)).toInt = x2.toInt + 1 := i_add (x := x2) (y := (1 : Int32)) (by show (_ : Int) ≤ x2.toInt + 1; omega) (by show x2.toInt + 1 ≤ (_ : Int); omega)
          have t_71 : v6.toInt = (x2 + (1 : Int32)).toInt := congrArg Int32.toInt ev6
          have w_72 := Int32.toInt_lt x1
          have w_73 := Int32.le_toInt x1
          exact ih31 x1 v6 σ5 mσ5 fσ5 nσ5_c0 (by omega) (by omega) (by first | with_reducible assumption | with_reducible rfl | omega | assumption | rfl) (by omega)
        · intro q_63
          have w_74 := Int32.toInt_lt x4
          have w_75 := Int32.le_toInt x4
          have b_76 : ¬ x4.toInt ≤ 0 := fun h9 => q_63 (Int32.le_iff_toInt_le.mpr h9)
          have z_77 : (1 : Int32).toInt = 1 := rfl
          refine k_X1_wears hc0 mσ3  (by omega) (by omega) (fun σ7 mσ7 cσ7 => ?_)
          have fσ7 : FX (fun id => id = c0 + 14 ∨ id = c0 + 15 ∨ id = c0 + 3 ∨ id = c0 + 4 ∨ id = c0 + 5 ∨ id = c0 + 6) (fun id k => (id = c0 ∧ k = 9)) σ0 σ7 := FX_tr fσ3 cσ7 (fun x (h9 : x = c0 + 4 ∨ x = c0 + 5) => h9.elim (fun e9 => (show x = c0 + 14 ∨ x = c0 + 15 ∨ x = c0 + 3 ∨ x = c0 + 4 ∨ x = c0 + 5 ∨ x = c0 + 6 from Or.inr (Or.inr (Or.inr (Or.inl (e9)))))) (fun h9 => (show x = c0 + 14 ∨ x = c0 + 15 ∨ x = c0 + 3 ∨ x = c0 + 4 ∨ x = c0 + 5 ∨ x = c0 + 6 from Or.inr (Or.inr (Or.inr (Or.inr (Or.inl (h9)))))))) (fun _ _ h9 => h9.elim)
          have k_78 : (gi σ7 c0 3).toInt = (gi σ3 c0 3).toInt := congrArg Int32.toInt (FX_i cσ7 (show ¬ (c0 = c0 + 4 ∨ c0 = c0 + 5) from by first | omega | (have uoc0 := un oc0; omega)) id)
          have k_79 : (gi σ7 c0 9).toInt = (gi σ3 c0 9).toInt := congrArg Int32.toInt (FX_i cσ7 (show ¬ (c0 = c0 + 4 ∨ c0 = c0 + 5) from by first | omega | (have uoc0 := un oc0; omega)) id)
          have nσ7_c0 : NN σ7 c0 := NN_fx nσ3_c0 cσ7 (show ¬ (c0 = c0 + 4 ∨ c0 = c0 + 5) from by first | omega | (have uoc0 := un oc0; omega)) (show ¬ (c0 + 1 = c0 + 4 ∨ c0 + 1 = c0 + 5) from by first | omega | (have uoc0 := un oc0; omega)) (show ¬ (c0 + 2 = c0 + 4 ∨ c0 + 2 = c0 + 5) from by first | omega | (have uoc0 := un oc0; omega)) id id (fun _ => id) (fun _ => id)
          intro v8 ev8
          have t_80 : (x2 + (1 : Int32)).toInt = x2.toInt + 1 := i_add (x := x2) (y := (1 : Int32)) (by show (_ : Int) ≤ x2.toInt + 1; omega) (by show x2.toInt + 1 ≤ (_ : Int); omega)
          have t_81 : v8.toInt = (x2 + (1 : Int32)).toInt := congrArg Int32.toInt ev8
          have w_82 := Int32.toInt_lt x1
          have w_83 := Int32.le_toInt x1
          exact ih31 x1 v8 σ7 mσ7 fσ7 nσ7_c0 (by omega) (by omega) (by first | with_reducible assumption | with_reducible rfl | omega | assumption | rfl) (by omega)
  obtain ⟨U2, U31, U95⟩ := T 900
  have f0 : FX (fun id => id = c0 + 14 ∨ id = c0 + 15 ∨ id = c0 + 3 ∨ id = c0 + 4 ∨ id = c0 + 5 ∨ id = c0 + 6) (fun id k => (id = c0 ∧ k = 9)) σ0 σ0 := FX_rf
  have t_84 := XI_c1 m0 (id := c0) (k := 3) (lim_C0_3 hc0)
  have t_85 := XI_c1 m0 (id := c0) (k := 9) (lim_C0_9 hc0)
  refine s_X1_goesMinute_0 C hN hc0 ?_
  have z_86 : (0 : Int32).toInt = 0 := rfl
  exact U2 (0 : Int32) σ0 m0 f0 nn_c0 (by omega) (by omega) (by first | with_reducible assumption | with_reducible rfl | omega | assumption | rfl) (by omega)
set_option maxRecDepth 100000 in
set_option maxHeartbeats 4000000 in
theorem k_X1_goes {l : Launch} {V : Vx} {c0 : Nat} {a1 : Int32} {σ0 : Sg} {Qk : Sg → Prop} (hc0 : isC c0) (m0 : XI V σ0) (nn_c0 : NN σ0 c0) (l_a1 : 0 ≤ a1.toInt) (u_a1 : a1.toInt ≤ 60) (pre0 : (gi σ0 c0 9).toInt ≤ 18000) (h9ret : ∀ (σ' : Sg), XI V σ' → FX (fun id => id = c0 + 14 ∨ id = c0 + 15 ∨ id = c0 + 3 ∨ id = c0 + 4 ∨ id = c0 + 5 ∨ id = c0 + 6) (fun id k => (id = c0 ∧ k = 9)) σ0 σ' → (NN σ' c0) → ((gi σ' c0 9).toInt = (gi σ0 c0 9).toInt + a1.toInt) → Qk σ') : K_X1_goes l V c0 a1 σ0 Qk := by
  refine e_X1_goes (fun M hl hV hN C => ?_)
  subst hl
  subst hV
  have oc0 : hid (c0 = 1 ∨ c0 = 17 ∨ c0 = 33) := hc0
  have T : ∀ n : Nat, (∀ (x1 : Int32) (x2 : Int32) (σ : Sg), XI (mV M) σ → FX (fun id => id = c0 + 14 ∨ id = c0 + 15 ∨ id = c0 + 3 ∨ id = c0 + 4 ∨ id = c0 + 5 ∨ id = c0 + 6) (fun id k => (id = c0 ∧ k = 9)) σ0 σ → NN σ c0 → (0 ≤ x1.toInt) → (x1.toInt ≤ 60) → (0 ≤ x2.toInt) → (x2.toInt ≤ 60) → ((gi σ c0 9).toInt = (gi σ0 c0 9).toInt + x2.toInt) → (x1.toInt = a1.toInt) → (x2.toInt ≤ x1.toInt) → (61 - x2.toInt).toNat < n → PS M 2 [(0, .ref c0), (1, .int x1), (2, .int x2)] [] σ (0, 0)) := by
    intro n
    induction n with
    | zero => exact fun _ _ _ _ _ _ _ _ _ _ _ _ _ h8 => absurd h8 (Nat.not_lt_zero _)
    | succ n ih =>
      have ih2 := ih
      · intro x1 x2 σ mσ fσ nσ_c0 lx1 ux1 lx2 ux2 i0 i1 i2 hmu
        have t_1 := XI_c1 mσ (id := c0) (k := 9) (lim_C0_9 hc0)
        refine s_X1_goes_2 C hN hc0 ?_
        refine ⟨?_, ?_⟩
        · intro q_2
          have b_3 : x1.toInt ≤ x2.toInt := Int32.le_iff_toInt_le.mp q_2
          exact h9ret σ mσ fσ nσ_c0 (by first | with_reducible assumption | with_reducible rfl | omega | assumption | rfl)
        · intro q_2
          have b_4 : ¬ x1.toInt ≤ x2.toInt := fun h9 => q_2 (Int32.le_iff_toInt_le.mpr h9)
          refine k_X1_goesMinute hc0 mσ nσ_c0 (by first | with_reducible assumption | with_reducible rfl | omega | assumption | rfl) (fun r3 σ2 mσ2 cσ2 nσ2_c0 (pσ2_0 : (gi σ2 c0 9).toInt = (gi σ c0 9).toInt + 1) => ?_)
          have fσ2 : FX (fun id => id = c0 + 14 ∨ id = c0 + 15 ∨ id = c0 + 3 ∨ id = c0 + 4 ∨ id = c0 + 5 ∨ id = c0 + 6) (fun id k => (id = c0 ∧ k = 9)) σ0 σ2 := FX_tr fσ cσ2 (fun x (h9 : x = c0 + 14 ∨ x = c0 + 15 ∨ x = c0 + 3 ∨ x = c0 + 4 ∨ x = c0 + 5 ∨ x = c0 + 6) => h9.elim (fun e9 => (show x = c0 + 14 ∨ x = c0 + 15 ∨ x = c0 + 3 ∨ x = c0 + 4 ∨ x = c0 + 5 ∨ x = c0 + 6 from Or.inl (e9))) (fun h9 => h9.elim (fun e9 => (show x = c0 + 14 ∨ x = c0 + 15 ∨ x = c0 + 3 ∨ x = c0 + 4 ∨ x = c0 + 5 ∨ x = c0 + 6 from Or.inr (Or.inl (e9)))) (fun h9 => h9.elim (fun e9 => (show x = c0 + 14 ∨ x = c0 + 15 ∨ x = c0 + 3 ∨ x = c0 + 4 ∨ x = c0 + 5 ∨ x = c0 + 6 from Or.inr (Or.inr (Or.inl (e9))))) (fun h9 => h9.elim (fun e9 => (show x = c0 + 14 ∨ x = c0 + 15 ∨ x = c0 + 3 ∨ x = c0 + 4 ∨ x = c0 + 5 ∨ x = c0 + 6 from Or.inr (Or.inr (Or.inr (Or.inl (e9)))))) (fun h9 => h9.elim (fun e9 => (show x = c0 + 14 ∨ x = c0 + 15 ∨ x = c0 + 3 ∨ x = c0 + 4 ∨ x = c0 + 5 ∨ x = c0 + 6 from Or.inr (Or.inr (Or.inr (Or.inr (Or.inl (e9))))))) (fun h9 => (show x = c0 + 14 ∨ x = c0 + 15 ∨ x = c0 + 3 ∨ x = c0 + 4 ∨ x = c0 + 5 ∨ x = c0 + 6 from Or.inr (Or.inr (Or.inr (Or.inr (Or.inr (h9)))))))))))) (fun x k (h9 : (x = c0 ∧ k = 9)) => (show (x = c0 + 14 ∨ x = c0 + 15 ∨ x = c0 + 3 ∨ x = c0 + 4 ∨ x = c0 + 5 ∨ x = c0 + 6) ∨ ((x = c0 ∧ k = 9)) from Or.inr (show (x = c0 ∧ k = 9) from h9)))
          have t_5 := XI_c1 mσ2 (id := c0) (k := 9) (lim_C0_9 hc0)
          intro v4 ev4
          have t_6 : (x2 + (1 : Int32)).toInt = x2.toInt + 1 := i_add (x := x2) (y := (1 : Int32)) (by show (_ : Int) ≤ x2.toInt + 1; omega) (by show x2.toInt + 1 ≤ (_ : Int); omega)
          have t_7 : v4.toInt = (x2 + (1 : Int32)).toInt := congrArg Int32.toInt ev4
          exact ih2 x1 v4 σ2 mσ2 fσ2 nσ2_c0 (by omega) (by omega) (by omega) (by omega) (by first | with_reducible assumption | with_reducible rfl | omega | assumption | rfl) (by first | with_reducible assumption | with_reducible rfl | omega | assumption | rfl) (by first | with_reducible assumption | with_reducible rfl | omega | assumption | rfl) (by omega)
  have U2 := T 90
  have f0 : FX (fun id => id = c0 + 14 ∨ id = c0 + 15 ∨ id = c0 + 3 ∨ id = c0 + 4 ∨ id = c0 + 5 ∨ id = c0 + 6) (fun id k => (id = c0 ∧ k = 9)) σ0 σ0 := FX_rf
  have t_8 := XI_c1 m0 (id := c0) (k := 9) (lim_C0_9 hc0)
  refine s_X1_goes_0 C hN hc0 ?_
  have z_9 : (0 : Int32).toInt = 0 := rfl
  exact U2 a1 (0 : Int32) σ0 m0 f0 nn_c0 (by omega) (by omega) (by omega) (by omega) (by first | with_reducible assumption | with_reducible rfl | omega | assumption | rfl) (by first | with_reducible assumption | with_reducible rfl | omega | assumption | rfl) (by first | with_reducible assumption | with_reducible rfl | omega | assumption | rfl) (by omega)
set_option maxRecDepth 100000 in
set_option maxHeartbeats 4000000 in
theorem k_X1_passes {l : Launch} {V : Vx} {c0 : Nat} {a1 : Int32} {a2 : Int32} {σ0 : Sg} {Qk : Sg → Prop} (hc0 : isC c0) (m0 : XI V σ0) (nn_c0 : NN σ0 c0) (l_a1 : 1 ≤ a1.toInt) (u_a1 : a1.toInt ≤ 60) (pre0 : (gi σ0 c0 9).toInt ≤ 18000) (h9ret : ∀ (σ' : Sg), XI V σ' → FX (fun id => id = c0 + 5 ∨ id = c0 + 6) (fun id k => (id = c0 ∧ k = 9)) σ0 σ' → (NN σ' c0) → ((gi σ' c0 9).toInt = (gi σ0 c0 9).toInt + a1.toInt) → Qk σ') : K_X1_passes l V c0 a1 a2 σ0 Qk := by
  refine e_X1_passes (fun M hl hV hN C => ?_)
  subst hl
  subst hV
  have oc0 : hid (c0 = 1 ∨ c0 = 17 ∨ c0 = 33) := hc0
  have T : ∀ n : Nat, (∀ (x1 : Int32) (x2 : Int32) (x3 : Int32) (σ : Sg), XI (mV M) σ → FX (fun id => id = c0 + 5 ∨ id = c0 + 6) (fun id k => (id = c0 ∧ k = 9)) σ0 σ → NN σ c0 → (1 ≤ x1.toInt) → (x1.toInt ≤ 60) → (0 ≤ x3.toInt) → (x3.toInt ≤ 6) → ((gi σ c0 9).toInt = (gi σ0 c0 9).toInt) → (x1.toInt = a1.toInt) → (7 - x3.toInt).toNat < n → PS M 2 [(0, .ref c0), (1, .int x1), (2, .int x2), (3, .int x3)] [] σ (0, 0)) := by
    intro n
    induction n with
    | zero => exact fun _ _ _ _ _ _ _ _ _ _ _ _ _ h8 => absurd h8 (Nat.not_lt_zero _)
    | succ n ih =>
      have ih2 := ih
      · intro x1 x2 x3 σ mσ fσ nσ_c0 lx1 ux1 lx3 ux3 i0 i1 hmu
        have k_1 : (gi σ c0 1).toInt = (gi σ0 c0 1).toInt := congrArg Int32.toInt (FX_i fσ (show ¬ (c0 = c0 + 5 ∨ c0 = c0 + 6) from by first | omega | (have uoc0 := un oc0; omega)) (show ¬ ((c0 = c0 ∧ 1 = 9)) from by first | omega | (have uoc0 := un oc0; omega)))
        have t_2 := XI_c1 mσ (id := c0) (k := 1) (lim_C0_1 hc0)
        have t_3 := XI_c1 mσ (id := c0) (k := 9) (lim_C0_9 hc0)
        refine s_X1_passes_2 C hN hc0 ?_
        refine ⟨?_, ?_⟩
        · intro q_4
          have b_5 : (gi σ c0 1).toInt ≤ x3.toInt := Int32.le_iff_toInt_le.mp q_4
          intro σ2 eσ2
          have t_6 : ((gi σ c0 9) + x1).toInt = (gi σ c0 9).toInt + x1.toInt := i_add (x := (gi σ c0 9)) (y := x1) (by show (_ : Int) ≤ (gi σ c0 9).toInt + x1.toInt; omega) (by show (gi σ c0 9).toInt + x1.toInt ≤ (_ : Int); omega)
          have mσ2 : XI (mV M) σ2 := by rw [eσ2]; exact XIs_b mσ (lim_C0_9 hc0) (by omega) (by omega)
          have fσ2 : FX (fun id => id = c0 + 5 ∨ id = c0 + 6) (fun id k => (id = c0 ∧ k = 9)) σ0 σ2 := by rw [eσ2]; exact FX_si fσ (Or.inr (show (c0 = c0 ∧ 9 = 9) from ⟨rfl, rfl⟩))
          have k_7 : (gi σ2 c0 1).toInt = (gi σ c0 1).toInt := gk_r eσ2 rfl
          have k_8 : (gi σ2 c0 9).toInt = ((gi σ c0 9) + x1).toInt := by rw [eσ2]; exact congrArg Int32.toInt gi_si_eq
          have nσ2_c0 : NN σ2 c0 := by rw [eσ2]; exact NN_si nσ_c0 (by first | omega | (have uoc0 := un oc0; omega)) (fun _ => by decide +kernel)
          exact h9ret σ2 mσ2 fσ2 nσ2_c0 (by first | with_reducible assumption | with_reducible rfl | omega | assumption | rfl)
        · intro q_4
          have b_9 : ¬ (gi σ c0 1).toInt ≤ x3.toInt := fun h9 => q_4 (Int32.le_iff_toInt_le.mpr h9)
          have hv_10 : vp_in x3 6 := vp_in_iff.mpr ⟨by omega, by omega⟩
          refine ⟨hv_10, ?_⟩
          have z_11 : (0 : Int32).toInt = 0 := rfl
          have w_12 := Int32.toInt_lt (gi σ (c0 + 5) x3.toNatClampNeg)
          have w_13 := Int32.le_toInt (gi σ (c0 + 5) x3.toNatClampNeg)
          have w_14 := Int32.toInt_lt x2
          have w_15 := Int32.le_toInt x2
          try have t_16 : ((gi σ (c0 + 5) x3.toNatClampNeg) - x2).toInt = (gi σ (c0 + 5) x3.toNatClampNeg).toInt - x2.toInt := i_sub (x := (gi σ (c0 + 5) x3.toNatClampNeg)) (y := x2) (by show (_ : Int) ≤ (gi σ (c0 + 5) x3.toNatClampNeg).toInt - x2.toInt; omega) (by show (gi σ (c0 + 5) x3.toNatClampNeg).toInt - x2.toInt ≤ (_ : Int); omega)
          intro v4 ev4
          have t_17 := jmax_b (0 : Int32) ((gi σ (c0 + 5) x3.toNatClampNeg) - x2)
          have t_18 : v4.toInt = (jmax (0 : Int32) ((gi σ (c0 + 5) x3.toNatClampNeg) - x2)).toInt := congrArg Int32.toInt ev4
          refine ⟨hv_10, ?_⟩
          intro σ6 eσ6
          have mσ6 : XI (mV M) σ6 := by rw [eσ6]; exact XIs_n mσ (lim_C5 hc0 _)
          have fσ6 : FX (fun id => id = c0 + 5 ∨ id = c0 + 6) (fun id k => (id = c0 ∧ k = 9)) σ0 σ6 := by rw [eσ6]; exact FX_si fσ (Or.inl (show c0 + 5 = c0 + 5 ∨ c0 + 5 = c0 + 6 from Or.inl (rfl)))
          have k_19 : (gi σ6 c0 1).toInt = (gi σ c0 1).toInt := by rw [eσ6]; exact congrArg Int32.toInt (gi_si_ne (Or.inl (by first | omega | (have uoc0 := un oc0; omega))))
          have k_20 : (gi σ6 c0 9).toInt = (gi σ c0 9).toInt := by rw [eσ6]; exact congrArg Int32.toInt (gi_si_ne (Or.inl (by first | omega | (have uoc0 := un oc0; omega))))
          have nσ6_c0 : NN σ6 c0 := by rw [eσ6]; exact NN_si nσ_c0 (by first | omega | (have uoc0 := un oc0; omega)) (fun h9 => absurd h9 (by first | omega | (have uoc0 := un oc0; omega)))
          refine ⟨hv_10, ?_⟩
          have w_21 := Int32.toInt_lt (gi σ6 (c0 + 6) x3.toNatClampNeg)
          have w_22 := Int32.le_toInt (gi σ6 (c0 + 6) x3.toNatClampNeg)
          try have t_23 : ((gi σ6 (c0 + 6) x3.toNatClampNeg) - x1).toInt = (gi σ6 (c0 + 6) x3.toNatClampNeg).toInt - x1.toInt := i_sub (x := (gi σ6 (c0 + 6) x3.toNatClampNeg)) (y := x1) (by show (_ : Int) ≤ (gi σ6 (c0 + 6) x3.toNatClampNeg).toInt - x1.toInt; omega) (by show (gi σ6 (c0 + 6) x3.toNatClampNeg).toInt - x1.toInt ≤ (_ : Int); omega)
          intro v8 ev8
          have t_24 := jmax_b (0 : Int32) ((gi σ6 (c0 + 6) x3.toNatClampNeg) - x1)
          have t_25 : v8.toInt = (jmax (0 : Int32) ((gi σ6 (c0 + 6) x3.toNatClampNeg) - x1)).toInt := congrArg Int32.toInt ev8
          refine ⟨hv_10, ?_⟩
          intro σ10 eσ10
          have mσ10 : XI (mV M) σ10 := by rw [eσ10]; exact XIs_n mσ6 (lim_C6 hc0 _)
          have fσ10 : FX (fun id => id = c0 + 5 ∨ id = c0 + 6) (fun id k => (id = c0 ∧ k = 9)) σ0 σ10 := by rw [eσ10]; exact FX_si fσ6 (Or.inl (show c0 + 6 = c0 + 5 ∨ c0 + 6 = c0 + 6 from Or.inr (rfl)))
          have k_26 : (gi σ10 c0 1).toInt = (gi σ6 c0 1).toInt := by rw [eσ10]; exact congrArg Int32.toInt (gi_si_ne (Or.inl (by first | omega | (have uoc0 := un oc0; omega))))
          have k_27 : (gi σ10 c0 9).toInt = (gi σ6 c0 9).toInt := by rw [eσ10]; exact congrArg Int32.toInt (gi_si_ne (Or.inl (by first | omega | (have uoc0 := un oc0; omega))))
          have nσ10_c0 : NN σ10 c0 := by rw [eσ10]; exact NN_si nσ6_c0 (by first | omega | (have uoc0 := un oc0; omega)) (fun h9 => absurd h9 (by first | omega | (have uoc0 := un oc0; omega)))
          intro v11 ev11
          have t_28 : (x3 + (1 : Int32)).toInt = x3.toInt + 1 := i_add (x := x3) (y := (1 : Int32)) (by show (_ : Int) ≤ x3.toInt + 1; omega) (by show x3.toInt + 1 ≤ (_ : Int); omega)
          have t_29 : v11.toInt = (x3 + (1 : Int32)).toInt := congrArg Int32.toInt ev11
          exact ih2 x1 x2 v11 σ10 mσ10 fσ10 nσ10_c0 (by omega) (by omega) (by omega) (by omega) (by first | with_reducible assumption | with_reducible rfl | omega | assumption | rfl) (by first | with_reducible assumption | with_reducible rfl | omega | assumption | rfl) (by omega)
  have U2 := T 9
  have f0 : FX (fun id => id = c0 + 5 ∨ id = c0 + 6) (fun id k => (id = c0 ∧ k = 9)) σ0 σ0 := FX_rf
  have t_30 := XI_c1 m0 (id := c0) (k := 1) (lim_C0_1 hc0)
  have t_31 := XI_c1 m0 (id := c0) (k := 9) (lim_C0_9 hc0)
  refine s_X1_passes_0 C hN hc0 ?_
  have w_32 := Int32.toInt_lt a2
  have w_33 := Int32.le_toInt a2
  have z_34 : (0 : Int32).toInt = 0 := rfl
  exact U2 a1 a2 (0 : Int32) σ0 m0 f0 nn_c0 (by omega) (by omega) (by omega) (by omega) (by first | with_reducible assumption | with_reducible rfl | omega | assumption | rfl) (by first | with_reducible assumption | with_reducible rfl | omega | assumption | rfl) (by omega)
set_option maxRecDepth 100000 in
set_option maxHeartbeats 4000000 in
theorem k_X1_whetsAll {l : Launch} {V : Vx} {c0 : Nat} {σ0 : Sg} {Qk : Sg → Prop} (hc0 : isC c0) (m0 : XI V σ0) (nn_c0 : NN σ0 c0) (pre0 : (gi σ0 c0 9).toInt ≤ 18000) (h9ret : ∀ (σ' : Sg), XI V σ' → FX (fun id => id = c0 + 4 ∨ id = c0 + 5 ∨ id = c0 + 6) (fun id k => (id = c0 ∧ k = 9)) σ0 σ' → (NN σ' c0) → ((gi σ' c0 9).toInt = (gi σ0 c0 9).toInt + 1) → Qk σ') : K_X1_whetsAll l V c0 σ0 Qk := by
  refine e_X1_whetsAll (fun M hl hV hN C => ?_)
  subst hl
  subst hV
  have oc0 : hid (c0 = 1 ∨ c0 = 17 ∨ c0 = 33) := hc0
  have T : ∀ n : Nat, (∀ (x1 : Int32) (σ : Sg), XI (mV M) σ → FX (fun id => id = c0 + 4 ∨ id = c0 + 5 ∨ id = c0 + 6) (fun id k => (id = c0 ∧ k = 9)) σ0 σ → NN σ c0 → (0 ≤ x1.toInt) → (x1.toInt ≤ 6) → ((gi σ c0 9).toInt = (gi σ0 c0 9).toInt) → (7 - x1.toInt).toNat < n → PS M 2 [(0, .ref c0), (1, .int x1)] [] σ (0, 0)) := by
    intro n
    induction n with
    | zero => exact fun _ _ _ _ _ _ _ _ h8 => absurd h8 (Nat.not_lt_zero _)
    | succ n ih =>
      have ih2 := ih
      · intro x1 σ mσ fσ nσ_c0 lx1 ux1 i0 hmu
        have k_1 : (gi σ c0 1).toInt = (gi σ0 c0 1).toInt := congrArg Int32.toInt (FX_i fσ (show ¬ (c0 = c0 + 4 ∨ c0 = c0 + 5 ∨ c0 = c0 + 6) from by first | omega | (have uoc0 := un oc0; omega)) (show ¬ ((c0 = c0 ∧ 1 = 9)) from by first | omega | (have uoc0 := un oc0; omega)))
        have t_2 := XI_c1 mσ (id := c0) (k := 1) (lim_C0_1 hc0)
        have t_3 := XI_c1 mσ (id := c0) (k := 9) (lim_C0_9 hc0)
        refine s_X1_whetsAll_2 C hN hc0 ?_
        refine ⟨?_, ?_⟩
        · intro q_4
          have b_5 : (gi σ c0 1).toInt ≤ x1.toInt := Int32.le_iff_toInt_le.mp q_4
          have z_6 : (1 : Int32).toInt = 1 := rfl
          refine k_X1_passes hc0 mσ nσ_c0 (by omega) (by omega) (by first | with_reducible assumption | with_reducible rfl | omega | assumption | rfl) (fun σ2 mσ2 cσ2 nσ2_c0 (pσ2_0 : (gi σ2 c0 9).toInt = (gi σ c0 9).toInt + (1 : Int)) => ?_)
          have fσ2 : FX (fun id => id = c0 + 4 ∨ id = c0 + 5 ∨ id = c0 + 6) (fun id k => (id = c0 ∧ k = 9)) σ0 σ2 := FX_tr fσ cσ2 (fun x (h9 : x = c0 + 5 ∨ x = c0 + 6) => h9.elim (fun e9 => (show x = c0 + 4 ∨ x = c0 + 5 ∨ x = c0 + 6 from Or.inr (Or.inl (e9)))) (fun h9 => (show x = c0 + 4 ∨ x = c0 + 5 ∨ x = c0 + 6 from Or.inr (Or.inr (h9))))) (fun x k (h9 : (x = c0 ∧ k = 9)) => (show (x = c0 + 4 ∨ x = c0 + 5 ∨ x = c0 + 6) ∨ ((x = c0 ∧ k = 9)) from Or.inr (show (x = c0 ∧ k = 9) from h9)))
          have k_7 : (gi σ2 c0 1).toInt = (gi σ c0 1).toInt := congrArg Int32.toInt (FX_i cσ2 (show ¬ (c0 = c0 + 5 ∨ c0 = c0 + 6) from by first | omega | (have uoc0 := un oc0; omega)) (show ¬ ((c0 = c0 ∧ 1 = 9)) from by first | omega | (have uoc0 := un oc0; omega)))
          have t_8 := XI_c1 mσ2 (id := c0) (k := 9) (lim_C0_9 hc0)
          exact h9ret σ2 mσ2 fσ2 nσ2_c0 (by first | with_reducible assumption | with_reducible rfl | omega | assumption | rfl)
        · intro q_4
          have b_9 : ¬ (gi σ c0 1).toInt ≤ x1.toInt := fun h9 => q_4 (Int32.le_iff_toInt_le.mpr h9)
          have hv_10 : vp_in x1 6 := vp_in_iff.mpr ⟨by omega, by omega⟩
          refine ⟨hv_10, ?_⟩
          intro σ4 eσ4
          have mσ4 : XI (mV M) σ4 := by rw [eσ4]; exact XIs_n mσ (lim_C4 hc0 _)
          have fσ4 : FX (fun id => id = c0 + 4 ∨ id = c0 + 5 ∨ id = c0 + 6) (fun id k => (id = c0 ∧ k = 9)) σ0 σ4 := by rw [eσ4]; exact FX_si fσ (Or.inl (show c0 + 4 = c0 + 4 ∨ c0 + 4 = c0 + 5 ∨ c0 + 4 = c0 + 6 from Or.inl (rfl)))
          have k_11 : (gi σ4 c0 1).toInt = (gi σ c0 1).toInt := by rw [eσ4]; exact congrArg Int32.toInt (gi_si_ne (Or.inl (by first | omega | (have uoc0 := un oc0; omega))))
          have k_12 : (gi σ4 c0 9).toInt = (gi σ c0 9).toInt := by rw [eσ4]; exact congrArg Int32.toInt (gi_si_ne (Or.inl (by first | omega | (have uoc0 := un oc0; omega))))
          have nσ4_c0 : NN σ4 c0 := by rw [eσ4]; exact NN_si nσ_c0 (by first | omega | (have uoc0 := un oc0; omega)) (fun h9 => absurd h9 (by first | omega | (have uoc0 := un oc0; omega)))
          intro v5 ev5
          have t_13 : (x1 + (1 : Int32)).toInt = x1.toInt + 1 := i_add (x := x1) (y := (1 : Int32)) (by show (_ : Int) ≤ x1.toInt + 1; omega) (by show x1.toInt + 1 ≤ (_ : Int); omega)
          have t_14 : v5.toInt = (x1 + (1 : Int32)).toInt := congrArg Int32.toInt ev5
          exact ih2 v5 σ4 mσ4 fσ4 nσ4_c0 (by omega) (by omega) (by first | with_reducible assumption | with_reducible rfl | omega | assumption | rfl) (by omega)
  have U2 := T 9
  have f0 : FX (fun id => id = c0 + 4 ∨ id = c0 + 5 ∨ id = c0 + 6) (fun id k => (id = c0 ∧ k = 9)) σ0 σ0 := FX_rf
  have t_15 := XI_c1 m0 (id := c0) (k := 1) (lim_C0_1 hc0)
  have t_16 := XI_c1 m0 (id := c0) (k := 9) (lim_C0_9 hc0)
  refine s_X1_whetsAll_0 C hN hc0 ?_
  have z_17 : (0 : Int32).toInt = 0 := rfl
  exact U2 (0 : Int32) σ0 m0 f0 nn_c0 (by omega) (by omega) (by first | with_reducible assumption | with_reducible rfl | omega | assumption | rfl) (by omega)
set_option maxRecDepth 100000 in
set_option maxHeartbeats 4000000 in
theorem k_X1_rests {l : Launch} {V : Vx} {c0 : Nat} {a1 : Int32} {σ0 : Sg} {Qk : Sg → Prop} (hc0 : isC c0) (m0 : XI V σ0) (nn_c0 : NN σ0 c0) (l_a1 : 1 ≤ a1.toInt) (u_a1 : a1.toInt ≤ 60) (pre0 : (gi σ0 c0 9).toInt ≤ 18000) (h9ret : ∀ (σ' : Sg), XI V σ' → FX (fun id => id = c0 + 5 ∨ id = c0 + 6) (fun id k => (id = c0 ∧ k = 9)) σ0 σ' → (NN σ' c0) → ((gi σ' c0 9).toInt = (gi σ0 c0 9).toInt + a1.toInt) → Qk σ') : K_X1_rests l V c0 a1 σ0 Qk := by
  refine e_X1_rests (fun M hl hV hN C => ?_)
  subst hl
  subst hV
  have oc0 : hid (c0 = 1 ∨ c0 = 17 ∨ c0 = 33) := hc0
  have f0 : FX (fun id => id = c0 + 5 ∨ id = c0 + 6) (fun id k => (id = c0 ∧ k = 9)) σ0 σ0 := FX_rf
  have t_1 := XI_c1 m0 (id := c0) (k := 9) (lim_C0_9 hc0)
  refine s_X1_rests_0 C hN hc0 ?_
  have t_2 : ((3 : Int32) * a1).toInt = 3 * a1.toInt := i_mull rfl (by omega) (by omega)
  refine k_X1_passes hc0 m0 nn_c0 (by omega) (by omega) (by first | with_reducible assumption | with_reducible rfl | omega | assumption | rfl) (fun σ1 mσ1 cσ1 nσ1_c0 (pσ1_0 : (gi σ1 c0 9).toInt = (gi σ0 c0 9).toInt + a1.toInt) => ?_)
  have fσ1 : FX (fun id => id = c0 + 5 ∨ id = c0 + 6) (fun id k => (id = c0 ∧ k = 9)) σ0 σ1 := FX_tr f0 cσ1 (fun x (h9 : x = c0 + 5 ∨ x = c0 + 6) => h9.elim (fun e9 => (show x = c0 + 5 ∨ x = c0 + 6 from Or.inl (e9))) (fun h9 => (show x = c0 + 5 ∨ x = c0 + 6 from Or.inr (h9)))) (fun x k (h9 : (x = c0 ∧ k = 9)) => (show (x = c0 + 5 ∨ x = c0 + 6) ∨ ((x = c0 ∧ k = 9)) from Or.inr (show (x = c0 ∧ k = 9) from h9)))
  have t_3 := XI_c1 mσ1 (id := c0) (k := 9) (lim_C0_9 hc0)
  exact h9ret σ1 mσ1 fσ1 nσ1_c0 (by first | with_reducible assumption | with_reducible rfl | omega | assumption | rfl)
set_option maxRecDepth 100000 in
set_option maxHeartbeats 4000000 in
theorem k_X1_allAt {l : Launch} {V : Vx} {c0 : Nat} {σ0 : Sg} {Qk : Int32 → Sg → Prop} (hc0 : isC c0) (m0 : XI V σ0) (h9ret : ∀ (r : Int32) (σ' : Sg), XI V σ' → FX (fun id => False) (fun _ _ => False) σ0 σ' → Qk r σ') : K_X1_allAt l V c0 σ0 Qk := by
  refine e_X1_allAt (fun M hl hV hN C => ?_)
  subst hl
  subst hV
  have oc0 : hid (c0 = 1 ∨ c0 = 17 ∨ c0 = 33) := hc0
  have T : ∀ n : Nat, (∀ (x1 : Int32) (x2 : Int32) (σ : Sg), XI (mV M) σ → FX (fun id => False) (fun _ _ => False) σ0 σ → (0 ≤ x2.toInt) → (x2.toInt ≤ 6) → (7 - x2.toInt).toNat < n → PS M 4 [(0, .ref c0), (1, .int x1), (2, .int x2)] [] σ (0, 0)) := by
    intro n
    induction n with
    | zero => exact fun _ _ _ _ _ _ _ h8 => absurd h8 (Nat.not_lt_zero _)
    | succ n ih =>
      have ih4 := ih
      · intro x1 x2 σ mσ fσ lx2 ux2 hmu
        have k_1 : (gi σ c0 1).toInt = (gi σ0 c0 1).toInt := congrArg Int32.toInt (FX_i fσ id id)
        have t_2 := XI_c1 mσ (id := c0) (k := 1) (lim_C0_1 hc0)
        refine s_X1_allAt_4 C hN hc0 ?_
        refine ⟨?_, ?_⟩
        · intro q_3
          have b_4 : (gi σ c0 1).toInt ≤ x2.toInt := Int32.le_iff_toInt_le.mp q_3
          exact h9ret x1 σ mσ fσ
        · intro q_3
          have b_5 : ¬ (gi σ c0 1).toInt ≤ x2.toInt := fun h9 => q_3 (Int32.le_iff_toInt_le.mpr h9)
          have hv_6 : vp_in x2 6 := vp_in_iff.mpr ⟨by omega, by omega⟩
          refine ⟨hv_6, ?_⟩
          intro v3 ev3
          intro v4 ev4
          have t_7 : (x2 + (1 : Int32)).toInt = x2.toInt + 1 := i_add (x := x2) (y := (1 : Int32)) (by show (_ : Int) ≤ x2.toInt + 1; omega) (by show x2.toInt + 1 ≤ (_ : Int); omega)
          have t_8 : v4.toInt = (x2 + (1 : Int32)).toInt := congrArg Int32.toInt ev4
          have w_9 := Int32.toInt_lt v3
          have w_10 := Int32.le_toInt v3
          exact ih4 v3 v4 σ mσ fσ (by omega) (by omega) (by omega)
  have U4 := T 9
  have f0 : FX (fun id => False) (fun _ _ => False) σ0 σ0 := FX_rf
  have t_11 := XI_c1 m0 (id := c0) (k := 1) (lim_C0_1 hc0)
  refine s_X1_allAt_0 C hN hc0 ?_
  have z_12 : (0 : Int32).toInt = 0 := rfl
  exact U4 (0 : Int32) (0 : Int32) σ0 m0 f0 (by omega) (by omega) (by omega)
set_option maxRecDepth 100000 in
set_option maxHeartbeats 4000000 in
theorem k_X1_isDone {l : Launch} {V : Vx} {c0 : Nat} {σ0 : Sg} {Qk : Int32 → Sg → Prop} (hc0 : isC c0) (m0 : XI V σ0) (h9ret : ∀ (r : Int32) (σ' : Sg), XI V σ' → FX (fun id => False) (fun _ _ => False) σ0 σ' → (0 ≤ r.toInt) → (r.toInt ≤ 1) → Qk r σ') : K_X1_isDone l V c0 σ0 Qk := by
  refine e_X1_isDone (fun M hl hV hN C => ?_)
  subst hl
  subst hV
  have oc0 : hid (c0 = 1 ∨ c0 = 17 ∨ c0 = 33) := hc0
  have T : ∀ n : Nat, (∀ (x1 : Int32) (σ : Sg), XI (mV M) σ → FX (fun id => False) (fun _ _ => False) σ0 σ → (0 ≤ x1.toInt) → (x1.toInt ≤ 6) → (7 - x1.toInt).toNat < n → PS M 2 [(0, .ref c0), (1, .int x1)] [] σ (0, 0)) := by
    intro n
    induction n with
    | zero => exact fun _ _ _ _ _ _ h8 => absurd h8 (Nat.not_lt_zero _)
    | succ n ih =>
      have ih2 := ih
      · intro x1 σ mσ fσ lx1 ux1 hmu
        have k_1 : (gi σ c0 1).toInt = (gi σ0 c0 1).toInt := congrArg Int32.toInt (FX_i fσ id id)
        have t_2 := XI_c1 mσ (id := c0) (k := 1) (lim_C0_1 hc0)
        refine s_X1_isDone_2 C hN hc0 ?_
        refine ⟨?_, ?_⟩
        · intro q_3
          have b_4 : (gi σ c0 1).toInt ≤ x1.toInt := Int32.le_iff_toInt_le.mp q_3
          have z_5 : (1 : Int32).toInt = 1 := rfl
          exact h9ret (1 : Int32) σ mσ fσ (by omega) (by omega)
        · intro q_3
          have b_6 : ¬ (gi σ c0 1).toInt ≤ x1.toInt := fun h9 => q_3 (Int32.le_iff_toInt_le.mpr h9)
          have hv_7 : vp_in x1 6 := vp_in_iff.mpr ⟨by omega, by omega⟩
          refine ⟨hv_7, ?_⟩
          obtain ⟨f3, ef3, hf3, lf3⟩ := (mσ.2.1 _ hc0).1
          have gf3 : hid _ := kdF_ge hf3
          refine ⟨f3, ef3, hf3, lf3, ?_⟩
          refine ⟨?_, ?_⟩
          · intro q_8
            have w_9 := Int32.toInt_lt (gi σ f3 2)
            have w_10 := Int32.le_toInt (gi σ f3 2)
            have w_11 := Int32.toInt_lt (gi σ (c0 + 3) x1.toNatClampNeg)
            have w_12 := Int32.le_toInt (gi σ (c0 + 3) x1.toNatClampNeg)
            have b_13 : (gi σ f3 2).toInt ≤ (gi σ (c0 + 3) x1.toNatClampNeg).toInt := Int32.le_iff_toInt_le.mp q_8
            intro v5 ev5
            have t_14 : (x1 + (1 : Int32)).toInt = x1.toInt + 1 := i_add (x := x1) (y := (1 : Int32)) (by show (_ : Int) ≤ x1.toInt + 1; omega) (by show x1.toInt + 1 ≤ (_ : Int); omega)
            have t_15 : v5.toInt = (x1 + (1 : Int32)).toInt := congrArg Int32.toInt ev5
            exact ih2 v5 σ mσ fσ (by omega) (by omega) (by omega)
          · intro q_8
            have w_16 := Int32.toInt_lt (gi σ f3 2)
            have w_17 := Int32.le_toInt (gi σ f3 2)
            have w_18 := Int32.toInt_lt (gi σ (c0 + 3) x1.toNatClampNeg)
            have w_19 := Int32.le_toInt (gi σ (c0 + 3) x1.toNatClampNeg)
            have b_20 : ¬ (gi σ f3 2).toInt ≤ (gi σ (c0 + 3) x1.toNatClampNeg).toInt := fun h9 => q_8 (Int32.le_iff_toInt_le.mpr h9)
            have z_21 : (0 : Int32).toInt = 0 := rfl
            exact h9ret (0 : Int32) σ mσ fσ (by omega) (by omega)
  have U2 := T 9
  have f0 : FX (fun id => False) (fun _ _ => False) σ0 σ0 := FX_rf
  have t_22 := XI_c1 m0 (id := c0) (k := 1) (lim_C0_1 hc0)
  refine s_X1_isDone_0 C hN hc0 ?_
  have z_23 : (0 : Int32).toInt = 0 := rfl
  exact U2 (0 : Int32) σ0 m0 f0 (by omega) (by omega) (by omega)
theorem CQ_0 {σ σ' : Sg} {c a : Nat} : CQ σ σ' c a 0 := ⟨fun k h => absurd h (Nat.not_lt_zero _), fun j _ _ k h => absurd h (Nat.not_lt_zero _)⟩
/-- one round of the copying -/
theorem CQ_s {σ0 σ s1 s2 s3 s4 s5 s6 : Sg} {c a i : Nat} (hd : c + 16 ≤ a ∨ a + 16 ≤ c) (hA : ∀ j k, 1 ≤ j → j ≤ 6 → gi σ (a + j) k = gi σ0 (a + j) k ∧ gr σ (a + 1) k = gr σ0 (a + 1) k)
    (e1 : s1 = sr σ (c + 1) i (gr σ (a + 1) i)) (e2 : s2 = si s1 (c + 2) i (gi s1 (a + 2) i)) (e3 : s3 = si s2 (c + 3) i (gi s2 (a + 3) i)) (e4 : s4 = si s3 (c + 4) i (gi s3 (a + 4) i)) (e5 : s5 = si s4 (c + 5) i (gi s4 (a + 5) i)) (e6 : s6 = si s5 (c + 6) i (gi s5 (a + 6) i))
    (h : CQ σ0 σ c a i) : CQ σ0 s6 c a (i + 1) := by
  have r1 : ∀ b k, gr s6 b k = gr s1 b k := fun b k => by rw [e6, gr_si, e5, gr_si, e4, gr_si, e3, gr_si, e2, gr_si]
  have g1 : ∀ b k, gi s1 b k = gi σ b k := fun b k => by rw [e1, gi_sr]
  have g2 : ∀ b k, b ≠ c + 2 → gi s2 b k = gi σ b k := fun b k hb => by rw [e2, gi_si_ne (Or.inl hb), g1]
  have g3 : ∀ b k, b ≠ c + 2 → b ≠ c + 3 → gi s3 b k = gi σ b k := fun b k h2 h3 => by rw [e3, gi_si_ne (Or.inl h3), g2 b k h2]
  have g4 : ∀ b k, b ≠ c + 2 → b ≠ c + 3 → b ≠ c + 4 → gi s4 b k = gi σ b k := fun b k h2 h3 h4 => by rw [e4, gi_si_ne (Or.inl h4), g3 b k h2 h3]
  have g5 : ∀ b k, b ≠ c + 2 → b ≠ c + 3 → b ≠ c + 4 → b ≠ c + 5 → gi s5 b k = gi σ b k := fun b k h2 h3 h4 h5 => by rw [e5, gi_si_ne (Or.inl h5), g4 b k h2 h3 h4]
  have E2 : ∀ k, gi s6 (c + 2) k = if k = i then gi σ (a + 2) i else gi σ (c + 2) k := fun k => by
    rw [e6, gi_si_ne (Or.inl (by omega)), e5, gi_si_ne (Or.inl (by omega)), e4, gi_si_ne (Or.inl (by omega)), e3, gi_si_ne (Or.inl (by omega)), e2, gi_si, g1, g1]
    by_cases q : k = i
    · rw [if_pos ⟨rfl, q⟩, if_pos q]
    · rw [if_neg (fun z => q z.2), if_neg q]
  have E3 : ∀ k, gi s6 (c + 3) k = if k = i then gi σ (a + 3) i else gi σ (c + 3) k := fun k => by
    rw [e6, gi_si_ne (Or.inl (by omega)), e5, gi_si_ne (Or.inl (by omega)), e4, gi_si_ne (Or.inl (by omega)), e3, gi_si, g2 (a + 3) _ (by omega), g2 (c + 3) _ (by omega)]
    by_cases q : k = i
    · rw [if_pos ⟨rfl, q⟩, if_pos q]
    · rw [if_neg (fun z => q z.2), if_neg q]
  have E4 : ∀ k, gi s6 (c + 4) k = if k = i then gi σ (a + 4) i else gi σ (c + 4) k := fun k => by
    rw [e6, gi_si_ne (Or.inl (by omega)), e5, gi_si_ne (Or.inl (by omega)), e4, gi_si, g3 (a + 4) _ (by omega) (by omega), g3 (c + 4) _ (by omega) (by omega)]
    by_cases q : k = i
    · rw [if_pos ⟨rfl, q⟩, if_pos q]
    · rw [if_neg (fun z => q z.2), if_neg q]
  have E5 : ∀ k, gi s6 (c + 5) k = if k = i then gi σ (a + 5) i else gi σ (c + 5) k := fun k => by
    rw [e6, gi_si_ne (Or.inl (by omega)), e5, gi_si, g4 (a + 5) _ (by omega) (by omega) (by omega), g4 (c + 5) _ (by omega) (by omega) (by omega)]
    by_cases q : k = i
    · rw [if_pos ⟨rfl, q⟩, if_pos q]
    · rw [if_neg (fun z => q z.2), if_neg q]
  have E6 : ∀ k, gi s6 (c + 6) k = if k = i then gi σ (a + 6) i else gi σ (c + 6) k := fun k => by
    rw [e6, gi_si, g5 (a + 6) _ (by omega) (by omega) (by omega) (by omega), g5 (c + 6) _ (by omega) (by omega) (by omega) (by omega)]
    by_cases q : k = i
    · rw [if_pos ⟨rfl, q⟩, if_pos q]
    · rw [if_neg (fun z => q z.2), if_neg q]
  refine ⟨fun k hk => ?_, fun j j1 j2 k hk => ?_⟩
  · rw [r1, e1, gr_sr]
    by_cases q : k = i
    · rw [if_pos ⟨rfl, q⟩, q]; exact (hA 1 i (by decide +kernel) (by decide +kernel)).2
    · rw [if_neg (fun z => q z.2)]; exact h.1 k (by omega)
  · have hj : j = 2 ∨ j = 3 ∨ j = 4 ∨ j = 5 ∨ j = 6 := by omega
    have fin : ∀ {x : Int32}, x = (if k = i then gi σ (a + j) i else gi σ (c + j) k) → x = gi σ0 (a + j) k := fun {x} e => by
      rw [e]
      by_cases q : k = i
      · rw [if_pos q, q]; exact (hA j i (by omega) j2).1
      · rw [if_neg q]; exact h.2 j j1 j2 k (by omega)
    rcases hj with rfl | rfl | rfl | rfl | rfl
    · exact fin (E2 k)
    · exact fin (E3 k)
    · exact fin (E4 k)
    · exact fin (E5 k)
    · exact fin (E6 k)
theorem NN_cpy {V : Vx} {σ σ' : Sg} {c a : Nat} (ha : isC a) (x : XI V σ) (n : NN σ a) (p : CPY σ σ' c a) : NN σ' c := by
  obtain ⟨⟨p1, p3, -⟩, ⟨q1, q2⟩, -⟩ := p
  have b1 := XI_c1 x (lim_C0_1 ha)
  have b3 := XI_c1 x (lim_C0_3 ha)
  unfold NN
  rw [p1, p3]
  refine ⟨fun k hk => ?_, fun m hm => ?_⟩
  · rw [q2 2 (by decide +kernel) (by decide +kernel) k (by omega)]; exact n.1 k hk
  · rw [q1 m (by omega)]; exact n.2 m hm
set_option maxRecDepth 100000 in
set_option maxHeartbeats 4000000 in
theorem k_X1_becomes {l : Launch} {V : Vx} {c0 : Nat} {a1 : Nat} {σ0 : Sg} {Qk : Sg → Prop} (hc0 : isC c0) (ha1 : isC a1) (m0 : XI V σ0) (nn_a1 : NN σ0 a1) (pre0 : c0 + 16 ≤ a1 ∨ a1 + 16 ≤ c0) (h9ret : ∀ (σ' : Sg), XI V σ' → FX (fun id => id = c0 + 1 ∨ id = c0 + 2 ∨ id = c0 + 3 ∨ id = c0 + 4 ∨ id = c0 + 5 ∨ id = c0 + 6 ∨ id = c0 + 7) (fun id k => (id = c0 ∧ k = 1) ∨ (id = c0 ∧ k = 3) ∨ (id = c0 ∧ k = 9) ∨ (id = c0 ∧ k = 10) ∨ (id = c0 ∧ k = 11)) σ0 σ' → NN σ' a1 → NN σ' c0 → ((gi σ' c0 1).toInt = (gi σ0 a1 1).toInt) → ((gi σ' c0 3).toInt = (gi σ0 a1 3).toInt) → ((gi σ' c0 9).toInt = (gi σ0 a1 9).toInt) → CPY σ0 σ' c0 a1 → Qk σ') : K_X1_becomes l V c0 a1 σ0 Qk := by
  refine e_X1_becomes (fun M hl hV hN C => ?_)
  subst hl
  subst hV
  have oc0 : c0 = 1 ∨ c0 = 17 ∨ c0 = 33 := hc0
  have oa1 : a1 = 1 ∨ a1 = 17 ∨ a1 = 33 := ha1
  have xr : ∀ {σ : Sg} {k : Nat} {v : Option Nat}, XI (mV M) σ → (∀ μ, v = some μ → isMw (mV M) μ) → XI (mV M) (sr σ (c0 + 1) k v) := fun {σ k v} m h => XIs_r m (fun c hc e _ => by rcases hc with rfl | rfl | rfl <;> (exfalso; omega)) (fun c hc e μ q => h μ q) (fun e => by exfalso; omega) (fun q _ => by rw [kdC_1 hc0] at q; exact absurd (congrArg Prod.fst q) (by decide +kernel))
  have T : ∀ n : Nat, ∀ (i : Nat) (x2 : Int32) (σ : Sg), i ≤ 6 → x2.toInt = i → XI (mV M) σ → FX (fun id => id = c0 + 1 ∨ id = c0 + 2 ∨ id = c0 + 3 ∨ id = c0 + 4 ∨ id = c0 + 5 ∨ id = c0 + 6 ∨ id = c0 + 7) (fun id k => (id = c0 ∧ k = 1) ∨ (id = c0 ∧ k = 3) ∨ (id = c0 ∧ k = 9) ∨ (id = c0 ∧ k = 10) ∨ (id = c0 ∧ k = 11)) σ0 σ → (gi σ c0 1 = gi σ0 a1 1 ∧ gi σ c0 3 = gi σ0 a1 3 ∧ gi σ c0 9 = gi σ0 a1 9 ∧ gi σ c0 11 = gi σ0 a1 11 ∧ gr σ c0 10 = gr σ0 a1 10) → CQ σ0 σ c0 a1 i → 7 - i < n → PS M 42 [(0, .ref c0), (1, .ref a1), (2, .int x2)] [] σ (0, 0) := by
    intro n
    induction n with
    | zero => exact fun _ _ _ _ _ _ _ _ _ h8 => absurd h8 (Nat.not_lt_zero _)
    | succ n ih =>
      intro i x2 σ hi ex m f sc cq hmu
      have z6 : (6 : Int32).toInt = 6 := rfl
      refine s_X1_becomes_42 C hN hc0 ha1 ?_
      refine ⟨fun q => ?_, fun q => ?_⟩
      · have b := Int32.le_iff_toInt_le.mp q
        have hi6 : i = 6 := by omega
        subst hi6
        refine ⟨⟨by decide +kernel, by decide +kernel, by decide +kernel, by decide +kernel, by decide +kernel⟩, ?_⟩
        intro σ2 e2
        have f2 : FX (fun id => id = c0 + 1 ∨ id = c0 + 2 ∨ id = c0 + 3 ∨ id = c0 + 4 ∨ id = c0 + 5 ∨ id = c0 + 6 ∨ id = c0 + 7) (fun id k => (id = c0 ∧ k = 1) ∨ (id = c0 ∧ k = 3) ∨ (id = c0 ∧ k = 9) ∨ (id = c0 ∧ k = 10) ∨ (id = c0 ∧ k = 11)) σ0 σ2 := by rw [e2]; exact FX_sia f (show c0 + 7 = c0 + 1 ∨ c0 + 7 = c0 + 2 ∨ c0 + 7 = c0 + 3 ∨ c0 + 7 = c0 + 4 ∨ c0 + 7 = c0 + 5 ∨ c0 + 7 = c0 + 6 ∨ c0 + 7 = c0 + 7 from by omega)
        have m2 : XI (mV M) σ2 := by rw [e2]; exact XIs_sia m (fun k lo hi q => by rw [lim_C7 hc0 k] at q; cases q)
        have g2 : ∀ b k, b ≠ c0 + 7 → gi σ2 b k = gi σ b k := fun b k hb => by rw [e2, gi_sia, if_neg hb]
        have r2 : ∀ b k, gr σ2 b k = gr σ b k := fun b k => by rw [e2]; rfl
        have p : CPY σ0 σ2 c0 a1 := by
          refine ⟨⟨?_, ?_, ?_, ?_, ?_⟩, ⟨fun k hk => ?_, fun j j1 j2 k hk => ?_⟩, fun k hk => ?_⟩
          · rw [g2 _ _ (by omega)]; exact sc.1
          · rw [g2 _ _ (by omega)]; exact sc.2.1
          · rw [g2 _ _ (by omega)]; exact sc.2.2.1
          · rw [g2 _ _ (by omega)]; exact sc.2.2.2.1
          · rw [r2]; exact sc.2.2.2.2
          · rw [r2]; exact cq.1 k hk
          · rw [g2 _ _ (by omega)]; exact cq.2 j j1 j2 k hk
          · rw [e2, gi_sia, if_pos rfl]
            show va_cpy (σ.1 (a1 + 7)) (σ.1 (c0 + 7)) 0 0 24 k = _
            rw [cpy_in _ _ hk]
            exact FX_i f (show ¬ (a1 + 7 = c0 + 1 ∨ a1 + 7 = c0 + 2 ∨ a1 + 7 = c0 + 3 ∨ a1 + 7 = c0 + 4 ∨ a1 + 7 = c0 + 5 ∨ a1 + 7 = c0 + 6 ∨ a1 + 7 = c0 + 7) from by omega) (show ¬ ((a1 + 7 = c0 ∧ k = 1) ∨ (a1 + 7 = c0 ∧ k = 3) ∨ (a1 + 7 = c0 ∧ k = 9) ∨ (a1 + 7 = c0 ∧ k = 10) ∨ (a1 + 7 = c0 ∧ k = 11)) from by omega)
        exact h9ret σ2 m2 f2 (NN_fx nn_a1 f2 (show ¬ (a1 = c0 + 1 ∨ a1 = c0 + 2 ∨ a1 = c0 + 3 ∨ a1 = c0 + 4 ∨ a1 = c0 + 5 ∨ a1 = c0 + 6 ∨ a1 = c0 + 7) from by omega) (show ¬ (a1 + 1 = c0 + 1 ∨ a1 + 1 = c0 + 2 ∨ a1 + 1 = c0 + 3 ∨ a1 + 1 = c0 + 4 ∨ a1 + 1 = c0 + 5 ∨ a1 + 1 = c0 + 6 ∨ a1 + 1 = c0 + 7) from by omega) (show ¬ (a1 + 2 = c0 + 1 ∨ a1 + 2 = c0 + 2 ∨ a1 + 2 = c0 + 3 ∨ a1 + 2 = c0 + 4 ∨ a1 + 2 = c0 + 5 ∨ a1 + 2 = c0 + 6 ∨ a1 + 2 = c0 + 7) from by omega) (show ¬ ((a1 = c0 ∧ 1 = 1) ∨ (a1 = c0 ∧ 1 = 3) ∨ (a1 = c0 ∧ 1 = 9) ∨ (a1 = c0 ∧ 1 = 10) ∨ (a1 = c0 ∧ 1 = 11)) from by omega) (show ¬ ((a1 = c0 ∧ 3 = 1) ∨ (a1 = c0 ∧ 3 = 3) ∨ (a1 = c0 ∧ 3 = 9) ∨ (a1 = c0 ∧ 3 = 10) ∨ (a1 = c0 ∧ 3 = 11)) from by omega) (fun k => show ¬ ((a1 + 1 = c0 ∧ k = 1) ∨ (a1 + 1 = c0 ∧ k = 3) ∨ (a1 + 1 = c0 ∧ k = 9) ∨ (a1 + 1 = c0 ∧ k = 10) ∨ (a1 + 1 = c0 ∧ k = 11)) from by omega) (fun k => show ¬ ((a1 + 2 = c0 ∧ k = 1) ∨ (a1 + 2 = c0 ∧ k = 3) ∨ (a1 + 2 = c0 ∧ k = 9) ∨ (a1 + 2 = c0 ∧ k = 10) ∨ (a1 + 2 = c0 ∧ k = 11)) from by omega)) (NN_cpy ha1 m0 nn_a1 p) (congrArg Int32.toInt p.1.1) (congrArg Int32.toInt p.1.2.1) (congrArg Int32.toInt p.1.2.2.1) p
      · have b : ¬ (6 : Int32).toInt ≤ x2.toInt := fun h9 => q (Int32.le_iff_toInt_le.mpr h9)
        have hv : vp_in x2 6 := vp_in_iff.mpr ⟨by omega, by omega⟩
        have ec := cl_eq (x := x2) (by omega)
        have ei : x2.toNatClampNeg = i := by omega
        refine ⟨hv, hv, fun μ hμ => (m.2.1 a1 ha1).2 _ μ hμ, ?_⟩
        intro s1 e1
        refine ⟨hv, hv, ?_⟩
        intro s2 e2
        refine ⟨hv, hv, ?_⟩
        intro s3 e3
        refine ⟨hv, hv, ?_⟩
        intro s4 e4
        refine ⟨hv, hv, ?_⟩
        intro s5 e5
        refine ⟨hv, hv, ?_⟩
        intro s6 e6
        intro v7 e7
        rw [ei] at e1 e2 e3 e4 e5 e6
        have m1 : XI (mV M) s1 := by rw [e1]; exact xr m (fun μ hμ => (m.2.1 a1 ha1).2 _ μ hμ)
        have bl := XI_c1 m1 (k := i) (lim_C2 ha1 _)
        have m2 : XI (mV M) s2 := by rw [e2]; exact XIs_b m1 (lim_C2 hc0 _) bl.1 bl.2
        have m3 : XI (mV M) s3 := by rw [e3]; exact XIs_n m2 (lim_C3 hc0 _)
        have m4 : XI (mV M) s4 := by rw [e4]; exact XIs_n m3 (lim_C4 hc0 _)
        have m5 : XI (mV M) s5 := by rw [e5]; exact XIs_n m4 (lim_C5 hc0 _)
        have m6 : XI (mV M) s6 := by rw [e6]; exact XIs_n m5 (lim_C6 hc0 _)
        have f1 : FX (fun id => id = c0 + 1 ∨ id = c0 + 2 ∨ id = c0 + 3 ∨ id = c0 + 4 ∨ id = c0 + 5 ∨ id = c0 + 6 ∨ id = c0 + 7) (fun id k => (id = c0 ∧ k = 1) ∨ (id = c0 ∧ k = 3) ∨ (id = c0 ∧ k = 9) ∨ (id = c0 ∧ k = 10) ∨ (id = c0 ∧ k = 11)) σ0 s1 := by rw [e1]; exact FX_sr f (Or.inl (show c0 + 1 = c0 + 1 ∨ c0 + 1 = c0 + 2 ∨ c0 + 1 = c0 + 3 ∨ c0 + 1 = c0 + 4 ∨ c0 + 1 = c0 + 5 ∨ c0 + 1 = c0 + 6 ∨ c0 + 1 = c0 + 7 from by omega))
        have f2 : FX (fun id => id = c0 + 1 ∨ id = c0 + 2 ∨ id = c0 + 3 ∨ id = c0 + 4 ∨ id = c0 + 5 ∨ id = c0 + 6 ∨ id = c0 + 7) (fun id k => (id = c0 ∧ k = 1) ∨ (id = c0 ∧ k = 3) ∨ (id = c0 ∧ k = 9) ∨ (id = c0 ∧ k = 10) ∨ (id = c0 ∧ k = 11)) σ0 s2 := by rw [e2]; exact FX_si f1 (Or.inl (show c0 + 2 = c0 + 1 ∨ c0 + 2 = c0 + 2 ∨ c0 + 2 = c0 + 3 ∨ c0 + 2 = c0 + 4 ∨ c0 + 2 = c0 + 5 ∨ c0 + 2 = c0 + 6 ∨ c0 + 2 = c0 + 7 from by omega))
        have f3 : FX (fun id => id = c0 + 1 ∨ id = c0 + 2 ∨ id = c0 + 3 ∨ id = c0 + 4 ∨ id = c0 + 5 ∨ id = c0 + 6 ∨ id = c0 + 7) (fun id k => (id = c0 ∧ k = 1) ∨ (id = c0 ∧ k = 3) ∨ (id = c0 ∧ k = 9) ∨ (id = c0 ∧ k = 10) ∨ (id = c0 ∧ k = 11)) σ0 s3 := by rw [e3]; exact FX_si f2 (Or.inl (show c0 + 3 = c0 + 1 ∨ c0 + 3 = c0 + 2 ∨ c0 + 3 = c0 + 3 ∨ c0 + 3 = c0 + 4 ∨ c0 + 3 = c0 + 5 ∨ c0 + 3 = c0 + 6 ∨ c0 + 3 = c0 + 7 from by omega))
        have f4 : FX (fun id => id = c0 + 1 ∨ id = c0 + 2 ∨ id = c0 + 3 ∨ id = c0 + 4 ∨ id = c0 + 5 ∨ id = c0 + 6 ∨ id = c0 + 7) (fun id k => (id = c0 ∧ k = 1) ∨ (id = c0 ∧ k = 3) ∨ (id = c0 ∧ k = 9) ∨ (id = c0 ∧ k = 10) ∨ (id = c0 ∧ k = 11)) σ0 s4 := by rw [e4]; exact FX_si f3 (Or.inl (show c0 + 4 = c0 + 1 ∨ c0 + 4 = c0 + 2 ∨ c0 + 4 = c0 + 3 ∨ c0 + 4 = c0 + 4 ∨ c0 + 4 = c0 + 5 ∨ c0 + 4 = c0 + 6 ∨ c0 + 4 = c0 + 7 from by omega))
        have f5 : FX (fun id => id = c0 + 1 ∨ id = c0 + 2 ∨ id = c0 + 3 ∨ id = c0 + 4 ∨ id = c0 + 5 ∨ id = c0 + 6 ∨ id = c0 + 7) (fun id k => (id = c0 ∧ k = 1) ∨ (id = c0 ∧ k = 3) ∨ (id = c0 ∧ k = 9) ∨ (id = c0 ∧ k = 10) ∨ (id = c0 ∧ k = 11)) σ0 s5 := by rw [e5]; exact FX_si f4 (Or.inl (show c0 + 5 = c0 + 1 ∨ c0 + 5 = c0 + 2 ∨ c0 + 5 = c0 + 3 ∨ c0 + 5 = c0 + 4 ∨ c0 + 5 = c0 + 5 ∨ c0 + 5 = c0 + 6 ∨ c0 + 5 = c0 + 7 from by omega))
        have f6 : FX (fun id => id = c0 + 1 ∨ id = c0 + 2 ∨ id = c0 + 3 ∨ id = c0 + 4 ∨ id = c0 + 5 ∨ id = c0 + 6 ∨ id = c0 + 7) (fun id k => (id = c0 ∧ k = 1) ∨ (id = c0 ∧ k = 3) ∨ (id = c0 ∧ k = 9) ∨ (id = c0 ∧ k = 10) ∨ (id = c0 ∧ k = 11)) σ0 s6 := by rw [e6]; exact FX_si f5 (Or.inl (show c0 + 6 = c0 + 1 ∨ c0 + 6 = c0 + 2 ∨ c0 + 6 = c0 + 3 ∨ c0 + 6 = c0 + 4 ∨ c0 + 6 = c0 + 5 ∨ c0 + 6 = c0 + 6 ∨ c0 + 6 = c0 + 7 from by omega))
        have g6 : ∀ k, gi s6 c0 k = gi σ c0 k := fun k => by rw [e6, gi_si_ne (Or.inl (by omega)), e5, gi_si_ne (Or.inl (by omega)), e4, gi_si_ne (Or.inl (by omega)), e3, gi_si_ne (Or.inl (by omega)), e2, gi_si_ne (Or.inl (by omega)), e1, gi_sr]
        have r6 : gr s6 c0 10 = gr σ c0 10 := by rw [e6, gr_si, e5, gr_si, e4, gr_si, e3, gr_si, e2, gr_si, e1, gr_sr, if_neg (fun z => by omega)]
        have t7 : (x2 + (1 : Int32)).toInt = x2.toInt + 1 := i_add (x := x2) (y := (1 : Int32)) (by show (_ : Int) ≤ x2.toInt + 1; omega) (by show x2.toInt + 1 ≤ (_ : Int); omega)
        refine ih (i + 1) v7 s6 (by omega) (by rw [e7, t7]; omega) m6 f6 ⟨by rw [g6]; exact sc.1, by rw [g6]; exact sc.2.1, by rw [g6]; exact sc.2.2.1, by rw [g6]; exact sc.2.2.2.1, by rw [r6]; exact sc.2.2.2.2⟩ ?_ (by omega)
        exact CQ_s pre0 (fun j k j1 j2 => ⟨FX_i f (show ¬ (a1 + j = c0 + 1 ∨ a1 + j = c0 + 2 ∨ a1 + j = c0 + 3 ∨ a1 + j = c0 + 4 ∨ a1 + j = c0 + 5 ∨ a1 + j = c0 + 6 ∨ a1 + j = c0 + 7) from by omega) (show ¬ ((a1 + j = c0 ∧ k = 1) ∨ (a1 + j = c0 ∧ k = 3) ∨ (a1 + j = c0 ∧ k = 9) ∨ (a1 + j = c0 ∧ k = 10) ∨ (a1 + j = c0 ∧ k = 11)) from by omega), FX_r f (show ¬ (a1 + 1 = c0 + 1 ∨ a1 + 1 = c0 + 2 ∨ a1 + 1 = c0 + 3 ∨ a1 + 1 = c0 + 4 ∨ a1 + 1 = c0 + 5 ∨ a1 + 1 = c0 + 6 ∨ a1 + 1 = c0 + 7) from by omega) (show ¬ ((a1 + 1 = c0 ∧ k = 1) ∨ (a1 + 1 = c0 ∧ k = 3) ∨ (a1 + 1 = c0 ∧ k = 9) ∨ (a1 + 1 = c0 ∧ k = 10) ∨ (a1 + 1 = c0 ∧ k = 11)) from by omega)⟩) e1 e2 e3 e4 e5 e6 cq
  have U42 := T 9
  have f0 : FX (fun id => id = c0 + 1 ∨ id = c0 + 2 ∨ id = c0 + 3 ∨ id = c0 + 4 ∨ id = c0 + 5 ∨ id = c0 + 6 ∨ id = c0 + 7) (fun id k => (id = c0 ∧ k = 1) ∨ (id = c0 ∧ k = 3) ∨ (id = c0 ∧ k = 9) ∨ (id = c0 ∧ k = 10) ∨ (id = c0 ∧ k = 11)) σ0 σ0 := FX_rf
  refine s_X1_becomes_0 C hN hc0 ha1 ?_
  intro s1 e1
  intro s2 e2
  intro s3 e3
  have b1 := XI_c1 m0 (lim_C0_1 ha1)
  have m1 : XI (mV M) s1 := by rw [e1]; exact XIs_b m0 (lim_C0_1 hc0) b1.1 b1.2
  have b2 := XI_c1 m1 (lim_C0_3 ha1)
  have m2 : XI (mV M) s2 := by rw [e2]; exact XIs_b m1 (lim_C0_3 hc0) b2.1 b2.2
  have b3 := XI_c1 m2 (lim_C0_9 ha1)
  have m3 : XI (mV M) s3 := by rw [e3]; exact XIs_b m2 (lim_C0_9 hc0) b3.1 b3.2
  have f1 : FX (fun id => id = c0 + 1 ∨ id = c0 + 2 ∨ id = c0 + 3 ∨ id = c0 + 4 ∨ id = c0 + 5 ∨ id = c0 + 6 ∨ id = c0 + 7) (fun id k => (id = c0 ∧ k = 1) ∨ (id = c0 ∧ k = 3) ∨ (id = c0 ∧ k = 9) ∨ (id = c0 ∧ k = 10) ∨ (id = c0 ∧ k = 11)) σ0 s1 := by rw [e1]; exact FX_si f0 (Or.inr (show (c0 = c0 ∧ 1 = 1) ∨ (c0 = c0 ∧ 1 = 3) ∨ (c0 = c0 ∧ 1 = 9) ∨ (c0 = c0 ∧ 1 = 10) ∨ (c0 = c0 ∧ 1 = 11) from by omega))
  have f2 : FX (fun id => id = c0 + 1 ∨ id = c0 + 2 ∨ id = c0 + 3 ∨ id = c0 + 4 ∨ id = c0 + 5 ∨ id = c0 + 6 ∨ id = c0 + 7) (fun id k => (id = c0 ∧ k = 1) ∨ (id = c0 ∧ k = 3) ∨ (id = c0 ∧ k = 9) ∨ (id = c0 ∧ k = 10) ∨ (id = c0 ∧ k = 11)) σ0 s2 := by rw [e2]; exact FX_si f1 (Or.inr (show (c0 = c0 ∧ 3 = 1) ∨ (c0 = c0 ∧ 3 = 3) ∨ (c0 = c0 ∧ 3 = 9) ∨ (c0 = c0 ∧ 3 = 10) ∨ (c0 = c0 ∧ 3 = 11) from by omega))
  have f3 : FX (fun id => id = c0 + 1 ∨ id = c0 + 2 ∨ id = c0 + 3 ∨ id = c0 + 4 ∨ id = c0 + 5 ∨ id = c0 + 6 ∨ id = c0 + 7) (fun id k => (id = c0 ∧ k = 1) ∨ (id = c0 ∧ k = 3) ∨ (id = c0 ∧ k = 9) ∨ (id = c0 ∧ k = 10) ∨ (id = c0 ∧ k = 11)) σ0 s3 := by rw [e3]; exact FX_si f2 (Or.inr (show (c0 = c0 ∧ 9 = 1) ∨ (c0 = c0 ∧ 9 = 3) ∨ (c0 = c0 ∧ 9 = 9) ∨ (c0 = c0 ∧ 9 = 10) ∨ (c0 = c0 ∧ 9 = 11) from by omega))
  obtain ⟨f4, ef4, hf4, lf4⟩ := (m3.2.1 _ ha1).1
  refine ⟨f4, ef4, hf4, lf4, ?_⟩
  intro s5 e5
  intro s6 e6
  have m5 : XI (mV M) s5 := by
    rw [e5]
    exact XIs_r m3 (fun c hc e _ => ⟨f4, rfl, hf4, lf4⟩) (fun c hc e => by rcases hc with rfl | rfl | rfl <;> (exfalso; omega)) (fun e => by exfalso; omega) (fun q _ => by rw [kdC_0 hc0] at q; exact absurd (congrArg Prod.fst q) (by decide +kernel))
  have m6 : XI (mV M) s6 := by rw [e6]; exact XIs_n m5 (lim_C0_n hc0 _ (by decide +kernel))
  have g5 : FX (fun id => id = c0 + 1 ∨ id = c0 + 2 ∨ id = c0 + 3 ∨ id = c0 + 4 ∨ id = c0 + 5 ∨ id = c0 + 6 ∨ id = c0 + 7) (fun id k => (id = c0 ∧ k = 1) ∨ (id = c0 ∧ k = 3) ∨ (id = c0 ∧ k = 9) ∨ (id = c0 ∧ k = 10) ∨ (id = c0 ∧ k = 11)) σ0 s5 := by rw [e5]; exact FX_sr f3 (Or.inr (show (c0 = c0 ∧ 10 = 1) ∨ (c0 = c0 ∧ 10 = 3) ∨ (c0 = c0 ∧ 10 = 9) ∨ (c0 = c0 ∧ 10 = 10) ∨ (c0 = c0 ∧ 10 = 11) from by omega))
  have g6 : FX (fun id => id = c0 + 1 ∨ id = c0 + 2 ∨ id = c0 + 3 ∨ id = c0 + 4 ∨ id = c0 + 5 ∨ id = c0 + 6 ∨ id = c0 + 7) (fun id k => (id = c0 ∧ k = 1) ∨ (id = c0 ∧ k = 3) ∨ (id = c0 ∧ k = 9) ∨ (id = c0 ∧ k = 10) ∨ (id = c0 ∧ k = 11)) σ0 s6 := by rw [e6]; exact FX_si g5 (Or.inr (show (c0 = c0 ∧ 11 = 1) ∨ (c0 = c0 ∧ 11 = 3) ∨ (c0 = c0 ∧ 11 = 9) ∨ (c0 = c0 ∧ 11 = 10) ∨ (c0 = c0 ∧ 11 = 11) from by omega))
  have n1 : ∀ k, gi s1 a1 k = gi σ0 a1 k := fun k => by rw [e1, gi_si_ne (Or.inl (by omega))]
  have n2 : ∀ k, gi s2 a1 k = gi σ0 a1 k := fun k => by rw [e2, gi_si_ne (Or.inl (by omega)), n1]
  have n5 : ∀ k, gi s5 a1 k = gi σ0 a1 k := fun k => by rw [e5, gi_sr, e3, gi_si_ne (Or.inl (by omega)), n2]
  refine U42 0 (0 : Int32) s6 (by decide +kernel) rfl m6 g6 ⟨?_, ?_, ?_, ?_, ?_⟩ CQ_0 (by decide +kernel)
  · rw [e6, gi_si_ne (Or.inr (by decide +kernel)), e5, gi_sr, e3, gi_si_ne (Or.inr (by decide +kernel)), e2, gi_si_ne (Or.inr (by decide +kernel)), e1, gi_si_eq]
  · rw [e6, gi_si_ne (Or.inr (by decide +kernel)), e5, gi_sr, e3, gi_si_ne (Or.inr (by decide +kernel)), e2, gi_si_eq, n1]
  · rw [e6, gi_si_ne (Or.inr (by decide +kernel)), e5, gi_sr, e3, gi_si_eq, n2]
  · rw [e6, gi_si_eq, n5]
  · rw [e6, gr_si, e5, gr_sr, if_pos ⟨rfl, rfl⟩, ← ef4, e3, gr_si, e2, gr_si, e1, gr_si]
set_option maxRecDepth 100000 in
set_option maxHeartbeats 4000000 in
theorem k_X1_becomesTold {l : Launch} {V : Vx} {c0 : Nat} {a1 : Nat} {σ0 : Sg} {Qk : Sg → Prop} (hc0 : isC c0) (ha1 : isC a1) (m0 : XI V σ0) (pre0 : c0 + 16 ≤ a1 ∨ a1 + 16 ≤ c0) (h9ret : ∀ (σ' : Sg), XI V σ' → FX (fun id => id = c0 + 11 ∨ id = c0 + 13 ∨ id = c0 + 9) (fun id k => (id = c0 + 10 ∧ k = 1) ∨ (id = c0 + 12 ∧ k = 1) ∨ (id = c0 + 8 ∧ k = 1)) σ0 σ' → ((gi σ' (c0 + 8) 1).toInt = (gi σ0 (a1 + 8) 1).toInt) → ((gi σ' (c0 + 10) 1).toInt = (gi σ0 (a1 + 10) 1).toInt) → ((gi σ' (c0 + 12) 1).toInt = (gi σ0 (a1 + 12) 1).toInt) → Qk σ') : K_X1_becomesTold l V c0 a1 σ0 Qk := by
  refine e_X1_becomesTold (fun M hl hV hN C => ?_)
  subst hl
  subst hV
  have oc0 : hid (c0 = 1 ∨ c0 = 17 ∨ c0 = 33) := hc0
  have oa1 : hid (a1 = 1 ∨ a1 = 17 ∨ a1 = 33) := ha1
  have f0 : FX (fun id => id = c0 + 11 ∨ id = c0 + 13 ∨ id = c0 + 9) (fun id k => (id = c0 + 10 ∧ k = 1) ∨ (id = c0 + 12 ∧ k = 1) ∨ (id = c0 + 8 ∧ k = 1)) σ0 σ0 := FX_rf
  have t_1 := XI_c1 m0 (id := (a1 + 10)) (k := 1) (lim_C10_1 ha1)
  have t_2 := XI_c1 m0 (id := (a1 + 12)) (k := 1) (lim_C12_1 ha1)
  have t_3 := XI_c1 m0 (id := (a1 + 8)) (k := 1) (lim_C8_1 ha1)
  have t_4 := XI_c1 m0 (id := (c0 + 10)) (k := 1) (lim_C10_1 hc0)
  have t_5 := XI_c1 m0 (id := (c0 + 12)) (k := 1) (lim_C12_1 hc0)
  have t_6 := XI_c1 m0 (id := (c0 + 8)) (k := 1) (lim_C8_1 hc0)
  have hc1 : ∀ j, (j = 8 ∨ j = 10 ∨ j = 12) → capI (c0 + j) = capI (a1 + j) ∧ (c0 + j) % 16 = (a1 + j) % 16 ∧ c0 + j ≠ a1 + j := by intro j hj; rcases hj with rfl | rfl | rfl <;> rcases hc0 with rfl | rfl | rfl <;> rcases ha1 with rfl | rfl | rfl <;> first | decide | (exfalso; omega)
  refine s_X1_becomesTold_0 C hN hc0 ha1 ?_
  refine k_X5_becomes (isN_C8 hc0) (isN_C8 ha1) m0  (by first | exact (hc1 8 (by decide +kernel)).1 | exact (hc1 10 (by decide +kernel)).1 | exact (hc1 12 (by decide +kernel)).1) (by omega) (by omega) (fun σ1 mσ1 cσ1 (pσ1_0 : (gi σ1 (c0 + 8) 1).toInt = (gi σ0 (a1 + 8) 1).toInt) => ?_)
  have fσ1 : FX (fun id => id = c0 + 11 ∨ id = c0 + 13 ∨ id = c0 + 9) (fun id k => (id = c0 + 10 ∧ k = 1) ∨ (id = c0 + 12 ∧ k = 1) ∨ (id = c0 + 8 ∧ k = 1)) σ0 σ1 := FX_tr f0 cσ1 (fun x (h9 : x = c0 + 9) => (show x = c0 + 11 ∨ x = c0 + 13 ∨ x = c0 + 9 from Or.inr (Or.inr (h9)))) (fun x k (h9 : (x = c0 + 8 ∧ k = 1)) => (show (x = c0 + 11 ∨ x = c0 + 13 ∨ x = c0 + 9) ∨ ((x = c0 + 10 ∧ k = 1) ∨ (x = c0 + 12 ∧ k = 1) ∨ (x = c0 + 8 ∧ k = 1)) from Or.inr (show (x = c0 + 10 ∧ k = 1) ∨ (x = c0 + 12 ∧ k = 1) ∨ (x = c0 + 8 ∧ k = 1) from Or.inr (Or.inr (h9)))))
  have k_7 : (gi σ1 (a1 + 10) 1).toInt = (gi σ0 (a1 + 10) 1).toInt := congrArg Int32.toInt (FX_i cσ1 (show ¬ (a1 + 10 = c0 + 9) from by first | omega | (have uoc0 := un oc0; have uoa1 := un oa1; omega)) (show ¬ ((a1 + 10 = c0 + 8 ∧ 1 = 1)) from by first | omega | (have uoc0 := un oc0; have uoa1 := un oa1; omega)))
  have k_8 : (gi σ1 (a1 + 12) 1).toInt = (gi σ0 (a1 + 12) 1).toInt := congrArg Int32.toInt (FX_i cσ1 (show ¬ (a1 + 12 = c0 + 9) from by first | omega | (have uoc0 := un oc0; have uoa1 := un oa1; omega)) (show ¬ ((a1 + 12 = c0 + 8 ∧ 1 = 1)) from by first | omega | (have uoc0 := un oc0; have uoa1 := un oa1; omega)))
  have k_9 : (gi σ1 (a1 + 8) 1).toInt = (gi σ0 (a1 + 8) 1).toInt := congrArg Int32.toInt (FX_i cσ1 (show ¬ (a1 + 8 = c0 + 9) from by first | omega | (have uoc0 := un oc0; have uoa1 := un oa1; omega)) (show ¬ ((a1 + 8 = c0 + 8 ∧ 1 = 1)) from by first | omega | (have uoc0 := un oc0; have uoa1 := un oa1; omega)))
  have k_10 : (gi σ1 (c0 + 10) 1).toInt = (gi σ0 (c0 + 10) 1).toInt := congrArg Int32.toInt (FX_i cσ1 (show ¬ (c0 + 10 = c0 + 9) from by first | omega | (have uoc0 := un oc0; have uoa1 := un oa1; omega)) (show ¬ ((c0 + 10 = c0 + 8 ∧ 1 = 1)) from by first | omega | (have uoc0 := un oc0; have uoa1 := un oa1; omega)))
  have k_11 : (gi σ1 (c0 + 12) 1).toInt = (gi σ0 (c0 + 12) 1).toInt := congrArg Int32.toInt (FX_i cσ1 (show ¬ (c0 + 12 = c0 + 9) from by first | omega | (have uoc0 := un oc0; have uoa1 := un oa1; omega)) (show ¬ ((c0 + 12 = c0 + 8 ∧ 1 = 1)) from by first | omega | (have uoc0 := un oc0; have uoa1 := un oa1; omega)))
  have t_12 := XI_c1 mσ1 (id := (c0 + 8)) (k := 1) (lim_C8_1 hc0)
  refine k_X5_becomes (isN_C10 hc0) (isN_C10 ha1) mσ1  (by first | exact (hc1 8 (by decide +kernel)).1 | exact (hc1 10 (by decide +kernel)).1 | exact (hc1 12 (by decide +kernel)).1) (by omega) (by omega) (fun σ2 mσ2 cσ2 (pσ2_0 : (gi σ2 (c0 + 10) 1).toInt = (gi σ1 (a1 + 10) 1).toInt) => ?_)
  have fσ2 : FX (fun id => id = c0 + 11 ∨ id = c0 + 13 ∨ id = c0 + 9) (fun id k => (id = c0 + 10 ∧ k = 1) ∨ (id = c0 + 12 ∧ k = 1) ∨ (id = c0 + 8 ∧ k = 1)) σ0 σ2 := FX_tr fσ1 cσ2 (fun x (h9 : x = c0 + 11) => (show x = c0 + 11 ∨ x = c0 + 13 ∨ x = c0 + 9 from Or.inl (h9))) (fun x k (h9 : (x = c0 + 10 ∧ k = 1)) => (show (x = c0 + 11 ∨ x = c0 + 13 ∨ x = c0 + 9) ∨ ((x = c0 + 10 ∧ k = 1) ∨ (x = c0 + 12 ∧ k = 1) ∨ (x = c0 + 8 ∧ k = 1)) from Or.inr (show (x = c0 + 10 ∧ k = 1) ∨ (x = c0 + 12 ∧ k = 1) ∨ (x = c0 + 8 ∧ k = 1) from Or.inl (h9))))
  have k_13 : (gi σ2 (a1 + 10) 1).toInt = (gi σ1 (a1 + 10) 1).toInt := congrArg Int32.toInt (FX_i cσ2 (show ¬ (a1 + 10 = c0 + 11) from by first | omega | (have uoc0 := un oc0; have uoa1 := un oa1; omega)) (show ¬ ((a1 + 10 = c0 + 10 ∧ 1 = 1)) from by first | omega | (have uoc0 := un oc0; have uoa1 := un oa1; omega)))
  have k_14 : (gi σ2 (a1 + 12) 1).toInt = (gi σ1 (a1 + 12) 1).toInt := congrArg Int32.toInt (FX_i cσ2 (show ¬ (a1 + 12 = c0 + 11) from by first | omega | (have uoc0 := un oc0; have uoa1 := un oa1; omega)) (show ¬ ((a1 + 12 = c0 + 10 ∧ 1 = 1)) from by first | omega | (have uoc0 := un oc0; have uoa1 := un oa1; omega)))
  have k_15 : (gi σ2 (a1 + 8) 1).toInt = (gi σ1 (a1 + 8) 1).toInt := congrArg Int32.toInt (FX_i cσ2 (show ¬ (a1 + 8 = c0 + 11) from by first | omega | (have uoc0 := un oc0; have uoa1 := un oa1; omega)) (show ¬ ((a1 + 8 = c0 + 10 ∧ 1 = 1)) from by first | omega | (have uoc0 := un oc0; have uoa1 := un oa1; omega)))
  have t_16 := XI_c1 mσ2 (id := (c0 + 10)) (k := 1) (lim_C10_1 hc0)
  have k_17 : (gi σ2 (c0 + 12) 1).toInt = (gi σ1 (c0 + 12) 1).toInt := congrArg Int32.toInt (FX_i cσ2 (show ¬ (c0 + 12 = c0 + 11) from by first | omega | (have uoc0 := un oc0; have uoa1 := un oa1; omega)) (show ¬ ((c0 + 12 = c0 + 10 ∧ 1 = 1)) from by first | omega | (have uoc0 := un oc0; have uoa1 := un oa1; omega)))
  have k_18 : (gi σ2 (c0 + 8) 1).toInt = (gi σ1 (c0 + 8) 1).toInt := congrArg Int32.toInt (FX_i cσ2 (show ¬ (c0 + 8 = c0 + 11) from by first | omega | (have uoc0 := un oc0; have uoa1 := un oa1; omega)) (show ¬ ((c0 + 8 = c0 + 10 ∧ 1 = 1)) from by first | omega | (have uoc0 := un oc0; have uoa1 := un oa1; omega)))
  refine k_X5_becomes (isN_C12 hc0) (isN_C12 ha1) mσ2  (by first | exact (hc1 8 (by decide +kernel)).1 | exact (hc1 10 (by decide +kernel)).1 | exact (hc1 12 (by decide +kernel)).1) (by omega) (by omega) (fun σ3 mσ3 cσ3 (pσ3_0 : (gi σ3 (c0 + 12) 1).toInt = (gi σ2 (a1 + 12) 1).toInt) => ?_)
  have fσ3 : FX (fun id => id = c0 + 11 ∨ id = c0 + 13 ∨ id = c0 + 9) (fun id k => (id = c0 + 10 ∧ k = 1) ∨ (id = c0 + 12 ∧ k = 1) ∨ (id = c0 + 8 ∧ k = 1)) σ0 σ3 := FX_tr fσ2 cσ3 (fun x (h9 : x = c0 + 13) => (show x = c0 + 11 ∨ x = c0 + 13 ∨ x = c0 + 9 from Or.inr (Or.inl (h9)))) (fun x k (h9 : (x = c0 + 12 ∧ k = 1)) => (show (x = c0 + 11 ∨ x = c0 + 13 ∨ x = c0 + 9) ∨ ((x = c0 + 10 ∧ k = 1) ∨ (x = c0 + 12 ∧ k = 1) ∨ (x = c0 + 8 ∧ k = 1)) from Or.inr (show (x = c0 + 10 ∧ k = 1) ∨ (x = c0 + 12 ∧ k = 1) ∨ (x = c0 + 8 ∧ k = 1) from Or.inr (Or.inl (h9)))))
  have k_19 : (gi σ3 (a1 + 10) 1).toInt = (gi σ2 (a1 + 10) 1).toInt := congrArg Int32.toInt (FX_i cσ3 (show ¬ (a1 + 10 = c0 + 13) from by first | omega | (have uoc0 := un oc0; have uoa1 := un oa1; omega)) (show ¬ ((a1 + 10 = c0 + 12 ∧ 1 = 1)) from by first | omega | (have uoc0 := un oc0; have uoa1 := un oa1; omega)))
  have k_20 : (gi σ3 (a1 + 12) 1).toInt = (gi σ2 (a1 + 12) 1).toInt := congrArg Int32.toInt (FX_i cσ3 (show ¬ (a1 + 12 = c0 + 13) from by first | omega | (have uoc0 := un oc0; have uoa1 := un oa1; omega)) (show ¬ ((a1 + 12 = c0 + 12 ∧ 1 = 1)) from by first | omega | (have uoc0 := un oc0; have uoa1 := un oa1; omega)))
  have k_21 : (gi σ3 (a1 + 8) 1).toInt = (gi σ2 (a1 + 8) 1).toInt := congrArg Int32.toInt (FX_i cσ3 (show ¬ (a1 + 8 = c0 + 13) from by first | omega | (have uoc0 := un oc0; have uoa1 := un oa1; omega)) (show ¬ ((a1 + 8 = c0 + 12 ∧ 1 = 1)) from by first | omega | (have uoc0 := un oc0; have uoa1 := un oa1; omega)))
  have k_22 : (gi σ3 (c0 + 10) 1).toInt = (gi σ2 (c0 + 10) 1).toInt := congrArg Int32.toInt (FX_i cσ3 (show ¬ (c0 + 10 = c0 + 13) from by first | omega | (have uoc0 := un oc0; have uoa1 := un oa1; omega)) (show ¬ ((c0 + 10 = c0 + 12 ∧ 1 = 1)) from by first | omega | (have uoc0 := un oc0; have uoa1 := un oa1; omega)))
  have t_23 := XI_c1 mσ3 (id := (c0 + 12)) (k := 1) (lim_C12_1 hc0)
  have k_24 : (gi σ3 (c0 + 8) 1).toInt = (gi σ2 (c0 + 8) 1).toInt := congrArg Int32.toInt (FX_i cσ3 (show ¬ (c0 + 8 = c0 + 13) from by first | omega | (have uoc0 := un oc0; have uoa1 := un oa1; omega)) (show ¬ ((c0 + 8 = c0 + 12 ∧ 1 = 1)) from by first | omega | (have uoc0 := un oc0; have uoa1 := un oa1; omega)))
  exact h9ret σ3 mσ3 fσ3 (by first | with_reducible assumption | with_reducible rfl | omega | assumption | rfl) (by first | with_reducible assumption | with_reducible rfl | omega | assumption | rfl) (by first | with_reducible assumption | with_reducible rfl | omega | assumption | rfl)
set_option maxRecDepth 100000 in
set_option maxHeartbeats 4000000 in
theorem k_X11_isMower {l : Launch} {V : Vx} {a1 : Int32} {σ0 : Sg} {Qk : Int32 → Sg → Prop} (m0 : XI V σ0) (h9ret : ∀ (r : Int32) (σ' : Sg), XI V σ' → FX (fun id => False) (fun _ _ => False) σ0 σ' → (0 ≤ r.toInt) → (r.toInt ≤ 1) → ((r.toInt = 1 ∧ 0 ≤ a1.toInt ∧ a1.toInt < (gi σ0 1 1).toInt) ∨ (r.toInt = 0 ∧ (a1.toInt < 0 ∨ (gi σ0 1 1).toInt ≤ a1.toInt))) → Qk r σ') : K_X11_isMower l V a1 σ0 Qk := by
  refine e_X11_isMower (fun M hl hV hN C => ?_)
  subst hl
  subst hV
  have f0 : FX (fun id => False) (fun _ _ => False) σ0 σ0 := FX_rf
  have t_1 := XI_c1 m0 (id := 1) (k := 1) (lim_C0_1 (Or.inl rfl))
  refine s_X11_isMower_0 C hN  ?_
  refine ⟨?_, ?_⟩
  · intro q_2
    have w_3 := Int32.toInt_lt a1
    have w_4 := Int32.le_toInt a1
    have b_5 : a1.toInt < 0 := Int32.lt_iff_toInt_lt.mp q_2
    have z_6 : (0 : Int32).toInt = 0 := rfl
    exact h9ret (0 : Int32) σ0 m0 f0 (by omega) (by omega) (by first | with_reducible assumption | with_reducible rfl | omega | assumption | rfl)
  · intro q_2
    have w_7 := Int32.toInt_lt a1
    have w_8 := Int32.le_toInt a1
    have b_9 : ¬ a1.toInt < 0 := fun h9 => q_2 (Int32.lt_iff_toInt_lt.mpr h9)
    refine ⟨?_, ?_⟩
    · intro q_10
      have b_11 : (gi σ0 1 1).toInt ≤ a1.toInt := Int32.le_iff_toInt_le.mp q_10
      have z_12 : (0 : Int32).toInt = 0 := rfl
      exact h9ret (0 : Int32) σ0 m0 f0 (by omega) (by omega) (by first | with_reducible assumption | with_reducible rfl | omega | assumption | rfl)
    · intro q_10
      have b_13 : ¬ (gi σ0 1 1).toInt ≤ a1.toInt := fun h9 => q_10 (Int32.le_iff_toInt_le.mpr h9)
      have z_14 : (1 : Int32).toInt = 1 := rfl
      exact h9ret (1 : Int32) σ0 m0 f0 (by omega) (by omega) (by first | with_reducible assumption | with_reducible rfl | omega | assumption | rfl)
set_option maxRecDepth 100000 in
set_option maxHeartbeats 4000000 in
theorem k_X11_hits {l : Launch} {V : Vx} {a1 : Int32} {σ0 : Sg} {Qk : Int32 → Sg → Prop} (m0 : XI V σ0) (h9ret : ∀ (r : Int32) (σ' : Sg), XI V σ' → FX (fun id => False) (fun _ _ => False) σ0 σ' → Qk r σ') : K_X11_hits l V a1 σ0 Qk := by
  refine e_X11_hits (fun M hl hV hN C => ?_)
  subst hl
  subst hV
  have T : ∀ n : Nat, (∀ (x1 : Int32) (x2 : Int32) (x3 : Int32) (σ : Sg), XI (mV M) σ → FX (fun id => False) (fun _ _ => False) σ0 σ → (0 ≤ x3.toInt) → (x3.toInt ≤ 6) → (7 - x3.toInt).toNat < n → PS M 4 [(0, .ref 0), (1, .int x1), (2, .int x2), (3, .int x3)] [] σ (0, 0)) := by
    intro n
    induction n with
    | zero => exact fun _ _ _ _ _ _ _ _ h8 => absurd h8 (Nat.not_lt_zero _)
    | succ n ih =>
      have ih4 := ih
      · intro x1 x2 x3 σ mσ fσ lx3 ux3 hmu
        have k_1 : (gi σ 33 1).toInt = (gi σ0 33 1).toInt := congrArg Int32.toInt (FX_i fσ id id)
        have t_2 := XI_c1 mσ (id := 33) (k := 1) (lim_C0_1 (Or.inr (Or.inr rfl)))
        refine s_X11_hits_4 C hN  ?_
        refine ⟨?_, ?_⟩
        · intro q_3
          have b_4 : (gi σ 33 1).toInt ≤ x3.toInt := Int32.le_iff_toInt_le.mp q_3
          exact h9ret x2 σ mσ fσ
        · intro q_3
          have b_5 : ¬ (gi σ 33 1).toInt ≤ x3.toInt := fun h9 => q_3 (Int32.le_iff_toInt_le.mpr h9)
          refine ⟨?_, ?_⟩
          · intro q_6
            have w_7 := Int32.toInt_lt x1
            have w_8 := Int32.le_toInt x1
            have b_9 : x3.toInt = x1.toInt := congrArg Int32.toInt q_6
            intro v3 ev3
            have t_10 : (x3 + (1 : Int32)).toInt = x3.toInt + 1 := i_add (x := x3) (y := (1 : Int32)) (by show (_ : Int) ≤ x3.toInt + 1; omega) (by show x3.toInt + 1 ≤ (_ : Int); omega)
            have t_11 : v3.toInt = (x3 + (1 : Int32)).toInt := congrArg Int32.toInt ev3
            have w_12 := Int32.toInt_lt x2
            have w_13 := Int32.le_toInt x2
            exact ih4 x1 x2 v3 σ mσ fσ (by omega) (by omega) (by omega)
          · intro q_6
            have w_14 := Int32.toInt_lt x1
            have w_15 := Int32.le_toInt x1
            have b_16 : ¬ x3.toInt = x1.toInt := fun h9 => q_6 (Int32.toInt_inj.mp h9)
            have hv_17 : vp_in x3 6 := vp_in_iff.mpr ⟨by omega, by omega⟩
            refine ⟨hv_17, ?_⟩
            refine ⟨hv_17, ?_⟩
            refine ⟨?_, ?_⟩
            · intro q_18
              have w_19 := Int32.toInt_lt (gi σ 68 x3.toNatClampNeg)
              have w_20 := Int32.le_toInt (gi σ 68 x3.toNatClampNeg)
              have w_21 := Int32.toInt_lt (gi σ 36 x3.toNatClampNeg)
              have w_22 := Int32.le_toInt (gi σ 36 x3.toNatClampNeg)
              have b_23 : (gi σ 68 x3.toNatClampNeg).toInt ≤ (gi σ 36 x3.toNatClampNeg).toInt := Int32.le_iff_toInt_le.mp q_18
              intro v7 ev7
              have t_24 : (x3 + (1 : Int32)).toInt = x3.toInt + 1 := i_add (x := x3) (y := (1 : Int32)) (by show (_ : Int) ≤ x3.toInt + 1; omega) (by show x3.toInt + 1 ≤ (_ : Int); omega)
              have t_25 : v7.toInt = (x3 + (1 : Int32)).toInt := congrArg Int32.toInt ev7
              have w_26 := Int32.toInt_lt x2
              have w_27 := Int32.le_toInt x2
              exact ih4 x1 x2 v7 σ mσ fσ (by omega) (by omega) (by omega)
            · intro q_18
              have w_28 := Int32.toInt_lt (gi σ 68 x3.toNatClampNeg)
              have w_29 := Int32.le_toInt (gi σ 68 x3.toNatClampNeg)
              have w_30 := Int32.toInt_lt (gi σ 36 x3.toNatClampNeg)
              have w_31 := Int32.le_toInt (gi σ 36 x3.toNatClampNeg)
              have b_32 : ¬ (gi σ 68 x3.toNatClampNeg).toInt ≤ (gi σ 36 x3.toNatClampNeg).toInt := fun h9 => q_18 (Int32.le_iff_toInt_le.mpr h9)
              intro v8 ev8
              intro v9 ev9
              have t_33 : (x3 + (1 : Int32)).toInt = x3.toInt + 1 := i_add (x := x3) (y := (1 : Int32)) (by show (_ : Int) ≤ x3.toInt + 1; omega) (by show x3.toInt + 1 ≤ (_ : Int); omega)
              have t_34 : v9.toInt = (x3 + (1 : Int32)).toInt := congrArg Int32.toInt ev9
              have w_35 := Int32.toInt_lt v8
              have w_36 := Int32.le_toInt v8
              exact ih4 x1 v8 v9 σ mσ fσ (by omega) (by omega) (by omega)
  have U4 := T 9
  have f0 : FX (fun id => False) (fun _ _ => False) σ0 σ0 := FX_rf
  have t_37 := XI_c1 m0 (id := 33) (k := 1) (lim_C0_1 (Or.inr (Or.inr rfl)))
  refine s_X11_hits_0 C hN  ?_
  have w_38 := Int32.toInt_lt a1
  have w_39 := Int32.le_toInt a1
  have z_40 : (0 : Int32).toInt = 0 := rfl
  exact U4 a1 (0 : Int32) (0 : Int32) σ0 m0 f0 (by omega) (by omega) (by omega)
set_option maxRecDepth 100000 in
set_option maxHeartbeats 4000000 in
theorem k_X11_whetsIn {l : Launch} {V : Vx} {a1 : Int32} {a2 : Int32} {σ0 : Sg} {Qk : Int32 → Sg → Prop} (m0 : XI V σ0) (l_a1 : 1 ≤ a1.toInt) (u_a1 : a1.toInt ≤ 61) (h9ret : ∀ (r : Int32) (σ' : Sg), XI V σ' → FX (fun id => False) (fun _ _ => False) σ0 σ' → (0 ≤ r.toInt) → (r.toInt ≤ 1) → Qk r σ') : K_X11_whetsIn l V a1 a2 σ0 Qk := by
  refine e_X11_whetsIn (fun M hl hV hN C => ?_)
  subst hl
  subst hV
  have f0 : FX (fun id => False) (fun _ _ => False) σ0 σ0 := FX_rf
  refine s_X11_whetsIn_0 C hN  ?_
  refine ⟨?_, ?_⟩
  · intro q_1
    have w_2 := Int32.toInt_lt a2
    have w_3 := Int32.le_toInt a2
    have b_4 : a2.toInt < 1 := Int32.lt_iff_toInt_lt.mp q_1
    have z_5 : (0 : Int32).toInt = 0 := rfl
    exact h9ret (0 : Int32) σ0 m0 f0 (by omega) (by omega)
  · intro q_1
    have w_6 := Int32.toInt_lt a2
    have w_7 := Int32.le_toInt a2
    have b_8 : ¬ a2.toInt < 1 := fun h9 => q_1 (Int32.lt_iff_toInt_lt.mpr h9)
    refine ⟨?_, ?_⟩
    · intro q_9
      have b_10 : (16 : Int) ≤ a2.toInt := Int32.le_iff_toInt_le.mp q_9
      have z_11 : (0 : Int32).toInt = 0 := rfl
      exact h9ret (0 : Int32) σ0 m0 f0 (by omega) (by omega)
    · intro q_9
      have b_12 : ¬ (16 : Int) ≤ a2.toInt := fun h9 => q_9 (Int32.le_iff_toInt_le.mpr h9)
      refine ⟨fun h9 => ?_, ?_⟩
      · have h9 : a2.toInt = 0 := congrArg Int32.toInt h9
        omega
      refine ⟨?_, ?_⟩
      · intro q_13
        try have t_14 : (a1 - ((a1 / a2) * a2)).toInt = a1.toInt - ((a1 / a2) * a2).toInt := i_sub (x := a1) (y := ((a1 / a2) * a2)) (by show (_ : Int) ≤ a1.toInt - ((a1 / a2) * a2).toInt; omega) (by show a1.toInt - ((a1 / a2) * a2).toInt ≤ (_ : Int); omega)
        have b_15 : ¬ (a1 - ((a1 / a2) * a2)).toInt = 0 := fun h9 => q_13 (Int32.toInt_inj.mp h9)
        have z_16 : (0 : Int32).toInt = 0 := rfl
        exact h9ret (0 : Int32) σ0 m0 f0 (by omega) (by omega)
      · intro q_13
        try have t_17 : (a1 - ((a1 / a2) * a2)).toInt = a1.toInt - ((a1 / a2) * a2).toInt := i_sub (x := a1) (y := ((a1 / a2) * a2)) (by show (_ : Int) ≤ a1.toInt - ((a1 / a2) * a2).toInt; omega) (by show a1.toInt - ((a1 / a2) * a2).toInt ≤ (_ : Int); omega)
        have b_18 : (a1 - ((a1 / a2) * a2)).toInt = 0 := congrArg Int32.toInt q_13
        have z_19 : (1 : Int32).toInt = 1 := rfl
        exact h9ret (1 : Int32) σ0 m0 f0 (by omega) (by omega)
set_option maxRecDepth 100000 in
set_option maxHeartbeats 4000000 in
theorem k_X11_isTape {l : Launch} {V : Vx} {a1 : Int32} {σ0 : Sg} {Qk : Int32 → Sg → Prop} (m0 : XI V σ0) (h9ret : ∀ (r : Int32) (σ' : Sg), XI V σ' → FX (fun id => False) (fun _ _ => False) σ0 σ' → (0 ≤ r.toInt) → (r.toInt ≤ 1) → ((r.toInt = 1 ∧ 0 ≤ a1.toInt ∧ a1.toInt ≤ 5) ∨ (r.toInt = 0 ∧ (a1.toInt < 0 ∨ 5 < a1.toInt))) → Qk r σ') : K_X11_isTape l V a1 σ0 Qk := by
  refine e_X11_isTape (fun M hl hV hN C => ?_)
  subst hl
  subst hV
  have f0 : FX (fun id => False) (fun _ _ => False) σ0 σ0 := FX_rf
  refine s_X11_isTape_0 C hN  ?_
  refine ⟨?_, ?_⟩
  · intro q_1
    have w_2 := Int32.toInt_lt a1
    have w_3 := Int32.le_toInt a1
    have b_4 : a1.toInt < 0 := Int32.lt_iff_toInt_lt.mp q_1
    have z_5 : (0 : Int32).toInt = 0 := rfl
    exact h9ret (0 : Int32) σ0 m0 f0 (by omega) (by omega) (by first | with_reducible assumption | with_reducible rfl | omega | assumption | rfl)
  · intro q_1
    have w_6 := Int32.toInt_lt a1
    have w_7 := Int32.le_toInt a1
    have b_8 : ¬ a1.toInt < 0 := fun h9 => q_1 (Int32.lt_iff_toInt_lt.mpr h9)
    refine ⟨?_, ?_⟩
    · intro q_9
      have b_10 : (6 : Int) ≤ a1.toInt := Int32.le_iff_toInt_le.mp q_9
      have z_11 : (0 : Int32).toInt = 0 := rfl
      exact h9ret (0 : Int32) σ0 m0 f0 (by omega) (by omega) (by first | with_reducible assumption | with_reducible rfl | omega | assumption | rfl)
    · intro q_9
      have b_12 : ¬ (6 : Int) ≤ a1.toInt := fun h9 => q_9 (Int32.le_iff_toInt_le.mpr h9)
      have z_13 : (1 : Int32).toInt = 1 := rfl
      exact h9ret (1 : Int32) σ0 m0 f0 (by omega) (by omega) (by first | with_reducible assumption | with_reducible rfl | omega | assumption | rfl)
set_option maxRecDepth 100000 in
set_option maxHeartbeats 4000000 in
theorem k_X11_told {l : Launch} {V : Vx} {a1 : Int32} {σ0 : Sg} {Qk : Int32 → Sg → Prop} (m0 : XI V σ0) (h9ret : ∀ (r : Int32) (σ' : Sg), XI V σ' → FX (fun id => False) (fun _ _ => False) σ0 σ' → Qk r σ') : K_X11_told l V a1 σ0 Qk := by
  refine e_X11_told (fun M hl hV hN C => ?_)
  subst hl
  subst hV
  have f0 : FX (fun id => False) (fun _ _ => False) σ0 σ0 := FX_rf
  have t_1 := XI_c1 m0 (id := 1) (k := 1) (lim_C0_1 (Or.inl rfl))
  have t_2 := XI_c1 m0 (id := 1) (k := 9) (lim_C0_9 (Or.inl rfl))
  refine s_X11_told_0 C hN  ?_
  refine ⟨?_, ?_, ?_, ?_, ?_⟩
  · intro q_3
    refine ⟨?_, ?_⟩
    · intro q_4
      have w_5 := Int32.toInt_lt a1
      have w_6 := Int32.le_toInt a1
      have b_7 : a1.toInt < 10 := Int32.lt_iff_toInt_lt.mp q_4
      have z_8 : (-1 : Int32).toInt = -1 := rfl
      exact h9ret (-1 : Int32) σ0 m0 f0
    · intro q_4
      have w_9 := Int32.toInt_lt a1
      have w_10 := Int32.le_toInt a1
      have b_11 : ¬ a1.toInt < 10 := fun h9 => q_4 (Int32.lt_iff_toInt_lt.mpr h9)
      refine ⟨?_, ?_⟩
      · intro q_12
        try have t_13 : (a1 - (10 : Int32)).toInt = a1.toInt - 10 := i_sub (x := a1) (y := (10 : Int32)) (by show (_ : Int) ≤ a1.toInt - 10; omega) (by show a1.toInt - 10 ≤ (_ : Int); omega)
        have b_14 : (gi σ0 1 1).toInt ≤ (a1 - (10 : Int32)).toInt := Int32.le_iff_toInt_le.mp q_12
        have z_15 : (-1 : Int32).toInt = -1 := rfl
        exact h9ret (-1 : Int32) σ0 m0 f0
      · intro q_12
        try have t_16 : (a1 - (10 : Int32)).toInt = a1.toInt - 10 := i_sub (x := a1) (y := (10 : Int32)) (by show (_ : Int) ≤ a1.toInt - 10; omega) (by show a1.toInt - 10 ≤ (_ : Int); omega)
        have b_17 : ¬ (gi σ0 1 1).toInt ≤ (a1 - (10 : Int32)).toInt := fun h9 => q_12 (Int32.le_iff_toInt_le.mpr h9)
        have hv_18 : vp_in (a1 - (10 : Int32)) 6 := vp_in_iff.mpr ⟨by omega, by omega⟩
        refine ⟨hv_18, ?_⟩
        exact h9ret (gi σ0 3 (a1 - (10 : Int32)).toNatClampNeg) σ0 m0 f0
  · intro q_3
    exact h9ret (gi σ0 1 9) σ0 m0 f0
  · intro q_3
    obtain ⟨f5, ef5, hf5, lf5⟩ := (m0.2.1 _ (Or.inl rfl)).1
    have gf5 : hid _ := kdF_ge hf5
    refine ⟨f5, ef5, hf5, lf5, ?_⟩
    exact h9ret (gi σ0 f5 0) σ0 m0 f0
  · intro q_3
    obtain ⟨f6, ef6, hf6, lf6⟩ := (m0.2.1 _ (Or.inl rfl)).1
    have gf6 : hid _ := kdF_ge hf6
    refine ⟨f6, ef6, hf6, lf6, ?_⟩
    exact h9ret (gi σ0 f6 1) σ0 m0 f0
  · intro q_3
    obtain ⟨f7, ef7, hf7, lf7⟩ := (m0.2.1 _ (Or.inl rfl)).1
    have gf7 : hid _ := kdF_ge hf7
    refine ⟨f7, ef7, hf7, lf7, ?_⟩
    exact h9ret (gi σ0 f7 2) σ0 m0 f0
set_option maxRecDepth 100000 in
set_option maxHeartbeats 4000000 in
theorem k_X11_of {l : Launch} {V : Vx} {a1 : Int32} {a2 : Int32} {σ0 : Sg} {Qk : Int32 → Sg → Prop} (m0 : XI V σ0) (nn_1 : NN σ0 1) (pre0 : (gi σ0 1 3).toInt = (gi σ0 1 1).toInt) (h9ret : ∀ (r : Int32) (σ' : Sg), XI V σ' → FX (fun id => id = 16) (fun _ _ => False) σ0 σ' → (NN σ' 1) → Qk r σ') : K_X11_of l V a1 a2 σ0 Qk := by
  refine e_X11_of (fun M hl hV hN C => ?_)
  subst hl
  subst hV
  have f0 : FX (fun id => id = 16) (fun _ _ => False) σ0 σ0 := FX_rf
  have t_1 := XI_c1 m0 (id := 1) (k := 1) (lim_C0_1 (Or.inl rfl))
  have t_2 := XI_c1 m0 (id := 1) (k := 3) (lim_C0_3 (Or.inl rfl))
  refine s_X11_of_0 C hN  ?_
  refine k_X11_isMower  m0   (fun r2 σ1 mσ1 cσ1 plσ1 phσ1 (pσ1_0 : (r2.toInt = 1 ∧ 0 ≤ a1.toInt ∧ a1.toInt < (gi σ0 1 1).toInt) ∨ (r2.toInt = 0 ∧ (a1.toInt < 0 ∨ (gi σ0 1 1).toInt ≤ a1.toInt))) => ?_)
  obtain rfl := FX_nil cσ1
  refine ⟨?_, ?_⟩
  · intro q_3
    have b_4 : ¬ r2.toInt = 0 := fun h9 => q_3 (Int32.toInt_inj.mp h9)
    refine ⟨?_, ?_, ?_, ?_, ?_, ?_, ?_, ?_, ?_, ?_⟩
    · intro q_5
      have z_6 : (-1 : Int32).toInt = -1 := rfl
      exact h9ret (-1 : Int32) σ0 m0 f0 nn_1
    · intro q_5
      have w_7 := Int32.toInt_lt a1
      have w_8 := Int32.le_toInt a1
      have hv_9 : vp_in a1 6 := vp_in_iff.mpr ⟨by omega, by omega⟩
      have ec_10 := cl_eq (x := a1) (by omega)
      obtain ⟨μ6, ci6, eμ6, sμ6, hμ6, lμ6⟩ := XI_mow m0 (Or.inl rfl) (nn_1.2 a1.toNatClampNeg (by omega))
      have gμ6 := kdM_ge sμ6 hμ6
      refine ⟨hv_9, μ6, ci6, eμ6, sμ6, hμ6, lμ6, ?_⟩
      exact h9ret (gi σ0 μ6 0) σ0 m0 f0 nn_1
    · intro q_5
      have w_11 := Int32.toInt_lt a1
      have w_12 := Int32.le_toInt a1
      have hv_13 : vp_in a1 6 := vp_in_iff.mpr ⟨by omega, by omega⟩
      have ec_14 := cl_eq (x := a1) (by omega)
      obtain ⟨μ8, ci8, eμ8, sμ8, hμ8, lμ8⟩ := XI_mow m0 (Or.inl rfl) (nn_1.2 a1.toNatClampNeg (by omega))
      have gμ8 := kdM_ge sμ8 hμ8
      refine ⟨hv_13, μ8, ci8, eμ8, sμ8, hμ8, lμ8, ?_⟩
      exact h9ret (gi σ0 μ8 2) σ0 m0 f0 nn_1
    · intro q_5
      have w_15 := Int32.toInt_lt a1
      have w_16 := Int32.le_toInt a1
      have hv_17 : vp_in a1 6 := vp_in_iff.mpr ⟨by omega, by omega⟩
      refine ⟨hv_17, ?_⟩
      exact h9ret (gi σ0 4 a1.toNatClampNeg) σ0 m0 f0 nn_1
    · intro q_5
      have w_18 := Int32.toInt_lt a1
      have w_19 := Int32.le_toInt a1
      have hv_20 : vp_in a1 6 := vp_in_iff.mpr ⟨by omega, by omega⟩
      refine ⟨hv_20, ?_⟩
      exact h9ret (gi σ0 5 a1.toNatClampNeg) σ0 m0 f0 nn_1
    · intro q_5
      have w_21 := Int32.toInt_lt a1
      have w_22 := Int32.le_toInt a1
      have hv_23 : vp_in a1 6 := vp_in_iff.mpr ⟨by omega, by omega⟩
      refine ⟨hv_23, ?_⟩
      exact h9ret (gi σ0 6 a1.toNatClampNeg) σ0 m0 f0 nn_1
    · intro q_5
      have w_24 := Int32.toInt_lt a1
      have w_25 := Int32.le_toInt a1
      have hv_26 : vp_in a1 6 := vp_in_iff.mpr ⟨by omega, by omega⟩
      refine ⟨hv_26, ?_⟩
      exact h9ret (gi σ0 7 a1.toNatClampNeg) σ0 m0 f0 nn_1
    · intro q_5
      refine k_X1_placeOf (Or.inl rfl) m0   (fun r14 σ13 mσ13 cσ13 plσ13 phσ13 (pσ13_0 : r14.toInt = 0 ∨ r14.toInt < (gi σ0 1 3).toInt) => ?_)
      obtain rfl := FX_nil cσ13
      exact h9ret r14 σ0 m0 f0 nn_1
    · intro q_5
      refine k_X1_placeOf (Or.inl rfl) m0   (fun r16 σ15 mσ15 cσ15 plσ15 phσ15 (pσ15_0 : r16.toInt = 0 ∨ r16.toInt < (gi σ0 1 3).toInt) => ?_)
      obtain rfl := FX_nil cσ15
      refine k_X1_paceAt (Or.inl rfl) m0 nn_1 (by omega) (by omega) (by first | with_reducible assumption | with_reducible rfl | omega | assumption | rfl) (fun r18 σ17 mσ17 cσ17 nσ17_1 => ?_)
      have fσ17 : FX (fun id => id = 16) (fun _ _ => False) σ0 σ17 := FX_tr f0 cσ17 (fun x (h9 : x = 16) => (show x = 16 from h9)) (fun _ _ h9 => h9.elim)
      have k_27 : (gi σ17 1 1).toInt = (gi σ0 1 1).toInt := congrArg Int32.toInt (FX_i cσ17 (show ¬ (1 = 16) from by omega) id)
      have k_28 : (gi σ17 1 3).toInt = (gi σ0 1 3).toInt := congrArg Int32.toInt (FX_i cσ17 (show ¬ (1 = 16) from by omega) id)
      exact h9ret r18 σ17 mσ17 fσ17 nσ17_1
    · intro q_5
      refine k_X1_placeOf (Or.inl rfl) m0   (fun r20 σ19 mσ19 cσ19 plσ19 phσ19 (pσ19_0 : r20.toInt = 0 ∨ r20.toInt < (gi σ0 1 3).toInt) => ?_)
      obtain rfl := FX_nil cσ19
      refine k_X1_strideAt (Or.inl rfl) m0 nn_1 (by omega) (by omega) (by first | with_reducible assumption | with_reducible rfl | omega | assumption | rfl) (fun r22 σ21 mσ21 cσ21 nσ21_1 => ?_)
      have fσ21 : FX (fun id => id = 16) (fun _ _ => False) σ0 σ21 := FX_tr f0 cσ21 (fun x (h9 : x = 16) => (show x = 16 from h9)) (fun _ _ h9 => h9.elim)
      have k_29 : (gi σ21 1 1).toInt = (gi σ0 1 1).toInt := congrArg Int32.toInt (FX_i cσ21 (show ¬ (1 = 16) from by omega) id)
      have k_30 : (gi σ21 1 3).toInt = (gi σ0 1 3).toInt := congrArg Int32.toInt (FX_i cσ21 (show ¬ (1 = 16) from by omega) id)
      exact h9ret r22 σ21 mσ21 fσ21 nσ21_1
  · intro q_3
    have b_31 : r2.toInt = 0 := congrArg Int32.toInt q_3
    have z_32 : (-1 : Int32).toInt = -1 := rfl
    exact h9ret (-1 : Int32) σ0 m0 f0 nn_1
set_option maxRecDepth 100000 in
set_option maxHeartbeats 4000000 in
theorem k_X11_set {l : Launch} {V : Vx} {a1 : Int32} {a2 : Int32} {a3 : Int32} {σ0 : Sg} {Qk : Int32 → Sg → Prop} (m0 : XI V σ0) (h9ret : ∀ (r : Int32) (σ' : Sg), XI V σ' → FX (fun id => id = 4 ∨ id = 5 ∨ id = 6 ∨ id = 7) (fun _ _ => False) σ0 σ' → Qk r σ') : K_X11_set l V a1 a2 a3 σ0 Qk := by
  refine e_X11_set (fun M hl hV hN C => ?_)
  subst hl
  subst hV
  have T : ∀ n : Nat, (∀ (x1 : Int32) (x2 : Int32) (x3 : Int32) (z0 : Int32) (σ : Sg), XI (mV M) σ → FX (fun id => id = 4 ∨ id = 5 ∨ id = 6 ∨ id = 7) (fun _ _ => False) σ0 σ → (0 ≤ x1.toInt) → (x1.toInt ≤ 5) → 1 < n → PS M 41 [(0, .ref 0), (1, .int x1), (2, .int x2), (3, .int x3)] [.int z0] σ (0, 0)) := by
    intro n
    induction n with
    | zero => exact fun _ _ _ _ _ _ _ _ _ h8 => absurd h8 (Nat.not_lt_zero _)
    | succ n ih =>
      have ih41 := ih
      · intro x1 x2 x3 z0 σ mσ fσ lx1 ux1 hmu
        have k_1 : (gi σ 1 1).toInt = (gi σ0 1 1).toInt := congrArg Int32.toInt (FX_i fσ (show ¬ (1 = 4 ∨ 1 = 5 ∨ 1 = 6 ∨ 1 = 7) from by omega) id)
        have t_2 := XI_c1 mσ (id := 1) (k := 1) (lim_C0_1 (Or.inl rfl))
        refine s_X11_set_41 C hN  ?_
        refine ⟨?_, ?_⟩
        · intro q_3
          have w_4 := Int32.toInt_lt x3
          have w_5 := Int32.le_toInt x3
          have b_6 : x3.toInt < 0 := Int32.lt_iff_toInt_lt.mp q_3
          have z_7 : (-2 : Int32).toInt = -2 := rfl
          exact h9ret (-2 : Int32) σ mσ fσ
        · intro q_3
          have w_8 := Int32.toInt_lt x3
          have w_9 := Int32.le_toInt x3
          have b_10 : ¬ x3.toInt < 0 := fun h9 => q_3 (Int32.lt_iff_toInt_lt.mpr h9)
          refine ⟨?_, ?_⟩
          · intro q_11
            have w_12 := Int32.toInt_lt z0
            have w_13 := Int32.le_toInt z0
            have b_14 : x3.toInt ≤ z0.toInt := Int32.le_iff_toInt_le.mp q_11
            refine k_X1_numbersOf (Or.inl rfl) mσ (fun a4 σ3 m9 c9 p9 => ?_)
            obtain rfl := FX_nil c9
            have hk9 : kd a4 = (0, 6) ∧ a4 ∈ ids (mV M) ∧ ∀ k, lim a4 k = none := by rcases p9 with rfl | rfl | rfl | rfl <;> exact ⟨by decide +kernel, fxl (by decide +kernel), fun _ => rfl⟩
            refine ⟨6, hk9.1, hk9.2.1, ?_⟩
            have hv_15 : vp_in x1 6 := vp_in_iff.mpr ⟨by omega, by omega⟩
            refine ⟨hv_15, ?_⟩
            intro v6 ev6
            refine ⟨hv_15, ?_⟩
            intro σ8 eσ8
            have mσ8 : XI (mV M) σ8 := by rw [eσ8]; exact XIs_n mσ (hk9.2.2 _)
            have fσ8 : FX (fun id => id = 4 ∨ id = 5 ∨ id = 6 ∨ id = 7) (fun _ _ => False) σ0 σ8 := by rw [eσ8]; exact FX_si fσ (Or.inl (show a4 = 4 ∨ a4 = 5 ∨ a4 = 6 ∨ a4 = 7 from by omega))
            have k_16 : (gi σ8 1 1).toInt = (gi σ 1 1).toInt := by rw [eσ8]; exact congrArg Int32.toInt (gi_si_ne (Or.inl (by omega)))
            exact h9ret v6 σ8 mσ8 fσ8
          · intro q_11
            have w_17 := Int32.toInt_lt z0
            have w_18 := Int32.le_toInt z0
            have b_19 : ¬ x3.toInt ≤ z0.toInt := fun h9 => q_11 (Int32.le_iff_toInt_le.mpr h9)
            have z_20 : (-2 : Int32).toInt = -2 := rfl
            exact h9ret (-2 : Int32) σ mσ fσ
  have U41 := T 9
  have f0 : FX (fun id => id = 4 ∨ id = 5 ∨ id = 6 ∨ id = 7) (fun _ _ => False) σ0 σ0 := FX_rf
  have t_21 := XI_c1 m0 (id := 1) (k := 1) (lim_C0_1 (Or.inl rfl))
  refine s_X11_set_0 C hN  ?_
  refine k_X11_isMower  m0   (fun r2 σ1 mσ1 cσ1 plσ1 phσ1 (pσ1_0 : (r2.toInt = 1 ∧ 0 ≤ a1.toInt ∧ a1.toInt < (gi σ0 1 1).toInt) ∨ (r2.toInt = 0 ∧ (a1.toInt < 0 ∨ (gi σ0 1 1).toInt ≤ a1.toInt))) => ?_)
  obtain rfl := FX_nil cσ1
  refine ⟨?_, ?_⟩
  · intro q_22
    have b_23 : r2.toInt = 0 := congrArg Int32.toInt q_22
    have z_24 : (-1 : Int32).toInt = -1 := rfl
    exact h9ret (-1 : Int32) σ0 m0 f0
  · intro q_22
    have b_25 : ¬ r2.toInt = 0 := fun h9 => q_22 (Int32.toInt_inj.mp h9)
    refine ⟨?_, ?_⟩
    · intro q_26
      have w_27 := Int32.toInt_lt a2
      have w_28 := Int32.le_toInt a2
      have b_29 : a2.toInt < 0 := Int32.lt_iff_toInt_lt.mp q_26
      have z_30 : (-1 : Int32).toInt = -1 := rfl
      exact h9ret (-1 : Int32) σ0 m0 f0
    · intro q_26
      have w_31 := Int32.toInt_lt a2
      have w_32 := Int32.le_toInt a2
      have b_33 : ¬ a2.toInt < 0 := fun h9 => q_26 (Int32.lt_iff_toInt_lt.mpr h9)
      refine ⟨?_, ?_⟩
      · intro q_34
        have b_35 : a2.toInt ≤ 3 := Int32.le_iff_toInt_le.mp q_34
        refine ⟨?_, ?_⟩
        · intro q_36
          have b_37 : ¬ a2.toInt = 0 := fun h9 => q_36 (Int32.toInt_inj.mp h9)
          refine ⟨?_, ?_⟩
          · intro q_38
            have b_39 : ¬ a2.toInt = 1 := fun h9 => q_38 (Int32.toInt_inj.mp h9)
            have w_40 := Int32.toInt_lt a1
            have w_41 := Int32.le_toInt a1
            have w_42 := Int32.toInt_lt a3
            have w_43 := Int32.le_toInt a3
            have z_44 : (99 : Int32).toInt = 99 := rfl
            exact U41 a1 a2 a3 (99 : Int32) σ0 m0 f0 (by omega) (by omega) (by omega)
          · intro q_38
            have b_45 : a2.toInt = 1 := congrArg Int32.toInt q_38
            have w_46 := Int32.toInt_lt a1
            have w_47 := Int32.le_toInt a1
            have w_48 := Int32.toInt_lt a3
            have w_49 := Int32.le_toInt a3
            have z_50 : (10 : Int32).toInt = 10 := rfl
            exact U41 a1 a2 a3 (10 : Int32) σ0 m0 f0 (by omega) (by omega) (by omega)
        · intro q_36
          have b_51 : a2.toInt = 0 := congrArg Int32.toInt q_36
          have w_52 := Int32.toInt_lt a1
          have w_53 := Int32.le_toInt a1
          have w_54 := Int32.toInt_lt a3
          have w_55 := Int32.le_toInt a3
          have z_56 : (9999 : Int32).toInt = 9999 := rfl
          exact U41 a1 a2 a3 (9999 : Int32) σ0 m0 f0 (by omega) (by omega) (by omega)
      · intro q_34
        have b_57 : ¬ a2.toInt ≤ 3 := fun h9 => q_34 (Int32.le_iff_toInt_le.mpr h9)
        have z_58 : (-1 : Int32).toInt = -1 := rfl
        exact h9ret (-1 : Int32) σ0 m0 f0
set_option maxRecDepth 100000 in
set_option maxHeartbeats 4000000 in
theorem k_X11_heldTimes {l : Launch} {V : Vx} {a1 : Int32} {a2 : Int32} {σ0 : Sg} {Qk : Int32 → Sg → Prop} (m0 : XI V σ0) (nn_33 : NN σ0 33) (l_a2 : 0 ≤ a2.toInt) (u_a2 : a2.toInt ≤ 60) (pre0 : (gi σ0 33 9).toInt ≤ 10000) (h9ret : ∀ (r : Int32) (σ' : Sg), XI V σ' → FX (fun id => id = 36 ∨ id = 37 ∨ id = 38 ∨ id = 39 ∨ id = 47 ∨ id = 48) (fun id k => (id = 33 ∧ k = 9)) σ0 σ' → (NN σ' 33) → Qk r σ') : K_X11_heldTimes l V a1 a2 σ0 Qk := by
  refine e_X11_heldTimes (fun M hl hV hN C => ?_)
  subst hl
  subst hV
  have T : ∀ n : Nat, (∀ (x1 : Int32) (x2 : Int32) (x3 : Int32) (x4 : Int32) (σ : Sg), XI (mV M) σ → FX (fun id => id = 36 ∨ id = 37 ∨ id = 38 ∨ id = 39 ∨ id = 47 ∨ id = 48) (fun id k => (id = 33 ∧ k = 9)) σ0 σ → NN σ 33 → (0 ≤ x2.toInt) → (x2.toInt ≤ 60) → (0 ≤ x4.toInt) → (x4.toInt ≤ 60) → ((gi σ 33 9).toInt ≤ 10000 + x4.toInt) → (x4.toInt ≤ x2.toInt) → (61 - x4.toInt).toNat < n → PS M 5 [(0, .ref 0), (1, .int x1), (2, .int x2), (3, .int x3), (4, .int x4)] [] σ (0, 0)) := by
    intro n
    induction n with
    | zero => exact fun _ _ _ _ _ _ _ _ _ _ _ _ _ _ h8 => absurd h8 (Nat.not_lt_zero _)
    | succ n ih =>
      have ih5 := ih
      · intro x1 x2 x3 x4 σ mσ fσ nσ_33 lx2 ux2 lx4 ux4 i0 i1 hmu
        have k_1 : (gi σ 1 1).toInt = (gi σ0 1 1).toInt := congrArg Int32.toInt (FX_i fσ (show ¬ (1 = 36 ∨ 1 = 37 ∨ 1 = 38 ∨ 1 = 39 ∨ 1 = 47 ∨ 1 = 48) from by omega) (show ¬ ((1 = 33 ∧ 1 = 9)) from by omega))
        have t_2 := XI_c1 mσ (id := 1) (k := 1) (lim_C0_1 (Or.inl rfl))
        have t_3 := XI_c1 mσ (id := 33) (k := 9) (lim_C0_9 (Or.inr (Or.inr rfl)))
        refine s_X11_heldTimes_5 C hN  ?_
        refine ⟨?_, ?_⟩
        · intro q_4
          have b_5 : x2.toInt ≤ x4.toInt := Int32.le_iff_toInt_le.mp q_4
          exact h9ret x3 σ mσ fσ nσ_33
        · intro q_4
          have b_6 : ¬ x2.toInt ≤ x4.toInt := fun h9 => q_4 (Int32.le_iff_toInt_le.mpr h9)
          refine k_X1_goesMinute (Or.inr (Or.inr rfl)) mσ nσ_33 (by first | with_reducible assumption | with_reducible rfl | omega | assumption | rfl) (fun r3 σ2 mσ2 cσ2 nσ2_33 (pσ2_0 : (gi σ2 33 9).toInt = (gi σ 33 9).toInt + 1) => ?_)
          have fσ2 : FX (fun id => id = 36 ∨ id = 37 ∨ id = 38 ∨ id = 39 ∨ id = 47 ∨ id = 48) (fun id k => (id = 33 ∧ k = 9)) σ0 σ2 := FX_tr fσ cσ2 (fun x (h9 : x = 47 ∨ x = 48 ∨ x = 36 ∨ x = 37 ∨ x = 38 ∨ x = 39) => h9.elim (fun e9 => (show x = 36 ∨ x = 37 ∨ x = 38 ∨ x = 39 ∨ x = 47 ∨ x = 48 from Or.inr (Or.inr (Or.inr (Or.inr (Or.inl (e9))))))) (fun h9 => h9.elim (fun e9 => (show x = 36 ∨ x = 37 ∨ x = 38 ∨ x = 39 ∨ x = 47 ∨ x = 48 from Or.inr (Or.inr (Or.inr (Or.inr (Or.inr (e9))))))) (fun h9 => h9.elim (fun e9 => (show x = 36 ∨ x = 37 ∨ x = 38 ∨ x = 39 ∨ x = 47 ∨ x = 48 from Or.inl (e9))) (fun h9 => h9.elim (fun e9 => (show x = 36 ∨ x = 37 ∨ x = 38 ∨ x = 39 ∨ x = 47 ∨ x = 48 from Or.inr (Or.inl (e9)))) (fun h9 => h9.elim (fun e9 => (show x = 36 ∨ x = 37 ∨ x = 38 ∨ x = 39 ∨ x = 47 ∨ x = 48 from Or.inr (Or.inr (Or.inl (e9))))) (fun h9 => (show x = 36 ∨ x = 37 ∨ x = 38 ∨ x = 39 ∨ x = 47 ∨ x = 48 from Or.inr (Or.inr (Or.inr (Or.inl (h9))))))))))) (fun x k (h9 : (x = 33 ∧ k = 9)) => (show (x = 36 ∨ x = 37 ∨ x = 38 ∨ x = 39 ∨ x = 47 ∨ x = 48) ∨ ((x = 33 ∧ k = 9)) from Or.inr (show (x = 33 ∧ k = 9) from h9)))
          have k_7 : (gi σ2 1 1).toInt = (gi σ 1 1).toInt := congrArg Int32.toInt (FX_i cσ2 (show ¬ (1 = 47 ∨ 1 = 48 ∨ 1 = 36 ∨ 1 = 37 ∨ 1 = 38 ∨ 1 = 39) from by omega) (show ¬ ((1 = 33 ∧ 1 = 9)) from by omega))
          have t_8 := XI_c1 mσ2 (id := 33) (k := 9) (lim_C0_9 (Or.inr (Or.inr rfl)))
          intro v4 ev4
          intro v5 ev5
          have t_9 : (x4 + (1 : Int32)).toInt = x4.toInt + 1 := i_add (x := x4) (y := (1 : Int32)) (by show (_ : Int) ≤ x4.toInt + 1; omega) (by show x4.toInt + 1 ≤ (_ : Int); omega)
          have t_10 : v5.toInt = (x4 + (1 : Int32)).toInt := congrArg Int32.toInt ev5
          have w_11 := Int32.toInt_lt x1
          have w_12 := Int32.le_toInt x1
          have w_13 := Int32.toInt_lt v4
          have w_14 := Int32.le_toInt v4
          exact ih5 x1 x2 v4 v5 σ2 mσ2 fσ2 nσ2_33 (by omega) (by omega) (by omega) (by omega) (by first | with_reducible assumption | with_reducible rfl | omega | assumption | rfl) (by first | with_reducible assumption | with_reducible rfl | omega | assumption | rfl) (by omega)
  have U5 := T 90
  have f0 : FX (fun id => id = 36 ∨ id = 37 ∨ id = 38 ∨ id = 39 ∨ id = 47 ∨ id = 48) (fun id k => (id = 33 ∧ k = 9)) σ0 σ0 := FX_rf
  have t_15 := XI_c1 m0 (id := 1) (k := 1) (lim_C0_1 (Or.inl rfl))
  have t_16 := XI_c1 m0 (id := 33) (k := 9) (lim_C0_9 (Or.inr (Or.inr rfl)))
  refine s_X11_heldTimes_0 C hN  ?_
  have w_17 := Int32.toInt_lt a1
  have w_18 := Int32.le_toInt a1
  have z_19 : (0 : Int32).toInt = 0 := rfl
  exact U5 a1 a2 (0 : Int32) (0 : Int32) σ0 m0 f0 nn_33 (by omega) (by omega) (by omega) (by omega) (by first | with_reducible assumption | with_reducible rfl | omega | assumption | rfl) (by first | with_reducible assumption | with_reducible rfl | omega | assumption | rfl) (by omega)
set_option maxRecDepth 100000 in
set_option maxHeartbeats 4000000 in
theorem k_X11_on {l : Launch} {V : Vx} {a1 : Int32} {a2 : Int32} {σ0 : Sg} {Qk : Int32 → Sg → Prop} (m0 : XI V σ0) (nn_1 : NN σ0 1) (pre0 : (gi σ0 1 9).toInt ≤ 9999) (h9ret : ∀ (r : Int32) (σ' : Sg), XI V σ' → FX (fun id => id = 34 ∨ id = 35 ∨ id = 36 ∨ id = 37 ∨ id = 38 ∨ id = 39 ∨ id = 40 ∨ id = 47 ∨ id = 48) (fun id k => (id = 33 ∧ k = 1) ∨ (id = 33 ∧ k = 3) ∨ (id = 33 ∧ k = 9) ∨ (id = 33 ∧ k = 10) ∨ (id = 33 ∧ k = 11)) σ0 σ' → (NN σ' 1) → Qk r σ') : K_X11_on l V a1 a2 σ0 Qk := by
  refine e_X11_on (fun M hl hV hN C => ?_)
  subst hl
  subst hV
  have T : ∀ n : Nat, (∀ (x1 : Int32) (x2 : Int32) (z0 : Int32) (σ : Sg), XI (mV M) σ → FX (fun id => id = 34 ∨ id = 35 ∨ id = 36 ∨ id = 37 ∨ id = 38 ∨ id = 39 ∨ id = 40 ∨ id = 47 ∨ id = 48) (fun id k => (id = 33 ∧ k = 1) ∨ (id = 33 ∧ k = 3) ∨ (id = 33 ∧ k = 9) ∨ (id = 33 ∧ k = 10) ∨ (id = 33 ∧ k = 11)) σ0 σ → NN σ 1 → (z0.toInt = 0 ∨ (10 ≤ x2.toInt ∧ x2.toInt < 10 + (gi σ 1 1).toInt)) → 3 < n → PS M 22 [(0, .ref 0), (1, .int x1), (2, .int x2)] [.int z0] σ (0, 0)) ∧ (∀ (x1 : Int32) (x2 : Int32) (x3 : Int32) (z0 : Int32) (σ : Sg), XI (mV M) σ → FX (fun id => id = 34 ∨ id = 35 ∨ id = 36 ∨ id = 37 ∨ id = 38 ∨ id = 39 ∨ id = 40 ∨ id = 47 ∨ id = 48) (fun id k => (id = 33 ∧ k = 1) ∨ (id = 33 ∧ k = 3) ∨ (id = 33 ∧ k = 9) ∨ (id = 33 ∧ k = 10) ∨ (id = 33 ∧ k = 11)) σ0 σ → NN σ 1 → (x3.toInt = 0 ∨ (10 ≤ x2.toInt ∧ x2.toInt < 10 + (gi σ 1 1).toInt)) → (z0.toInt = 0 ∨ (20 ≤ x2.toInt ∧ x2.toInt < 20 + (gi σ 1 1).toInt)) → 2 < n → PS M 45 [(0, .ref 0), (1, .int x1), (2, .int x2), (3, .int x3)] [.int z0] σ (0, 0)) ∧ (∀ (x1 : Int32) (x2 : Int32) (x3 : Int32) (x4 : Int32) (σ : Sg), XI (mV M) σ → FX (fun id => id = 34 ∨ id = 35 ∨ id = 36 ∨ id = 37 ∨ id = 38 ∨ id = 39 ∨ id = 40 ∨ id = 47 ∨ id = 48) (fun id k => (id = 33 ∧ k = 1) ∨ (id = 33 ∧ k = 3) ∨ (id = 33 ∧ k = 9) ∨ (id = 33 ∧ k = 10) ∨ (id = 33 ∧ k = 11)) σ0 σ → NN σ 1 → (x3.toInt = 0 ∨ (10 ≤ x2.toInt ∧ x2.toInt < 10 + (gi σ 1 1).toInt)) → (x4.toInt = 0 ∨ (20 ≤ x2.toInt ∧ x2.toInt < 20 + (gi σ 1 1).toInt)) → 1 < n → PS M 62 [(0, .ref 0), (1, .int x1), (2, .int x2), (3, .int x3), (4, .int x4)] [] σ (0, 0)) := by
    intro n
    induction n with
    | zero => exact ⟨fun _ _ _ _ _ _ _ _ h8 => absurd h8 (Nat.not_lt_zero _), fun _ _ _ _ _ _ _ _ _ _ h8 => absurd h8 (Nat.not_lt_zero _), fun _ _ _ _ _ _ _ _ _ _ h8 => absurd h8 (Nat.not_lt_zero _)⟩
    | succ n ih =>
      obtain ⟨ih22, ih45, ih62⟩ := ih
      refine ⟨?_, ?_, ?_⟩
      · intro x1 x2 z0 σ mσ fσ nσ_1 i0 hmu
        have k_1 : (gi σ 1 1).toInt = (gi σ0 1 1).toInt := congrArg Int32.toInt (FX_i fσ (show ¬ (1 = 34 ∨ 1 = 35 ∨ 1 = 36 ∨ 1 = 37 ∨ 1 = 38 ∨ 1 = 39 ∨ 1 = 40 ∨ 1 = 47 ∨ 1 = 48) from by omega) (show ¬ ((1 = 33 ∧ 1 = 1) ∨ (1 = 33 ∧ 1 = 3) ∨ (1 = 33 ∧ 1 = 9) ∨ (1 = 33 ∧ 1 = 10) ∨ (1 = 33 ∧ 1 = 11)) from by omega))
        have t_2 := XI_c1 mσ (id := 1) (k := 1) (lim_C0_1 (Or.inl rfl))
        have k_3 : (gi σ 1 9).toInt = (gi σ0 1 9).toInt := congrArg Int32.toInt (FX_i fσ (show ¬ (1 = 34 ∨ 1 = 35 ∨ 1 = 36 ∨ 1 = 37 ∨ 1 = 38 ∨ 1 = 39 ∨ 1 = 40 ∨ 1 = 47 ∨ 1 = 48) from by omega) (show ¬ ((1 = 33 ∧ 9 = 1) ∨ (1 = 33 ∧ 9 = 3) ∨ (1 = 33 ∧ 9 = 9) ∨ (1 = 33 ∧ 9 = 10) ∨ (1 = 33 ∧ 9 = 11)) from by omega))
        have t_4 := XI_c1 mσ (id := 1) (k := 9) (lim_C0_9 (Or.inl rfl))
        refine s_X11_on_22 C hN  ?_
        refine ⟨?_, ?_⟩
        · intro q_5
          have w_6 := Int32.toInt_lt x2
          have w_7 := Int32.le_toInt x2
          have b_8 : x2.toInt < 20 := Int32.lt_iff_toInt_lt.mp q_5
          have w_9 := Int32.toInt_lt x1
          have w_10 := Int32.le_toInt x1
          have w_11 := Int32.toInt_lt z0
          have w_12 := Int32.le_toInt z0
          have z_13 : (0 : Int32).toInt = 0 := rfl
          exact ih45 x1 x2 z0 (0 : Int32) σ mσ fσ nσ_1 (by first | with_reducible assumption | with_reducible rfl | omega | assumption | rfl) (by first | with_reducible assumption | with_reducible rfl | omega | assumption | rfl) (by omega)
        · intro q_5
          have w_14 := Int32.toInt_lt x2
          have w_15 := Int32.le_toInt x2
          have b_16 : ¬ x2.toInt < 20 := fun h9 => q_5 (Int32.lt_iff_toInt_lt.mpr h9)
          try have t_17 : (x2 - (20 : Int32)).toInt = x2.toInt - 20 := i_sub (x := x2) (y := (20 : Int32)) (by show (_ : Int) ≤ x2.toInt - 20; omega) (by show x2.toInt - 20 ≤ (_ : Int); omega)
          refine k_X11_isMower  mσ   (fun r3 σ2 mσ2 cσ2 plσ2 phσ2 (pσ2_0 : (r3.toInt = 1 ∧ 0 ≤ (x2 - (20 : Int32)).toInt ∧ (x2 - (20 : Int32)).toInt < (gi σ 1 1).toInt) ∨ (r3.toInt = 0 ∧ ((x2 - (20 : Int32)).toInt < 0 ∨ (gi σ 1 1).toInt ≤ (x2 - (20 : Int32)).toInt))) => ?_)
          obtain rfl := FX_nil cσ2
          refine ⟨?_, ?_⟩
          · intro q_18
            have b_19 : r3.toInt = 0 := congrArg Int32.toInt q_18
            have w_20 := Int32.toInt_lt x1
            have w_21 := Int32.le_toInt x1
            have w_22 := Int32.toInt_lt z0
            have w_23 := Int32.le_toInt z0
            have z_24 : (0 : Int32).toInt = 0 := rfl
            exact ih45 x1 x2 z0 (0 : Int32) σ mσ fσ nσ_1 (by first | with_reducible assumption | with_reducible rfl | omega | assumption | rfl) (by first | with_reducible assumption | with_reducible rfl | omega | assumption | rfl) (by omega)
          · intro q_18
            have b_25 : ¬ r3.toInt = 0 := fun h9 => q_18 (Int32.toInt_inj.mp h9)
            have w_26 := Int32.toInt_lt x1
            have w_27 := Int32.le_toInt x1
            have w_28 := Int32.toInt_lt z0
            have w_29 := Int32.le_toInt z0
            have z_30 : (1 : Int32).toInt = 1 := rfl
            exact ih45 x1 x2 z0 (1 : Int32) σ mσ fσ nσ_1 (by first | with_reducible assumption | with_reducible rfl | omega | assumption | rfl) (by first | with_reducible assumption | with_reducible rfl | omega | assumption | rfl) (by omega)
      · intro x1 x2 x3 z0 σ mσ fσ nσ_1 i0 i1 hmu
        have k_31 : (gi σ 1 1).toInt = (gi σ0 1 1).toInt := congrArg Int32.toInt (FX_i fσ (show ¬ (1 = 34 ∨ 1 = 35 ∨ 1 = 36 ∨ 1 = 37 ∨ 1 = 38 ∨ 1 = 39 ∨ 1 = 40 ∨ 1 = 47 ∨ 1 = 48) from by omega) (show ¬ ((1 = 33 ∧ 1 = 1) ∨ (1 = 33 ∧ 1 = 3) ∨ (1 = 33 ∧ 1 = 9) ∨ (1 = 33 ∧ 1 = 10) ∨ (1 = 33 ∧ 1 = 11)) from by omega))
        have t_32 := XI_c1 mσ (id := 1) (k := 1) (lim_C0_1 (Or.inl rfl))
        have k_33 : (gi σ 1 9).toInt = (gi σ0 1 9).toInt := congrArg Int32.toInt (FX_i fσ (show ¬ (1 = 34 ∨ 1 = 35 ∨ 1 = 36 ∨ 1 = 37 ∨ 1 = 38 ∨ 1 = 39 ∨ 1 = 40 ∨ 1 = 47 ∨ 1 = 48) from by omega) (show ¬ ((1 = 33 ∧ 9 = 1) ∨ (1 = 33 ∧ 9 = 3) ∨ (1 = 33 ∧ 9 = 9) ∨ (1 = 33 ∧ 9 = 10) ∨ (1 = 33 ∧ 9 = 11)) from by omega))
        have t_34 := XI_c1 mσ (id := 1) (k := 9) (lim_C0_9 (Or.inl rfl))
        refine s_X11_on_45 C hN  ?_
        refine ⟨?_, ?_⟩
        · intro q_35
          have w_36 := Int32.toInt_lt x2
          have w_37 := Int32.le_toInt x2
          have b_38 : x2.toInt = 0 := congrArg Int32.toInt q_35
          have w_39 := Int32.toInt_lt x1
          have w_40 := Int32.le_toInt x1
          have w_41 := Int32.toInt_lt x3
          have w_42 := Int32.le_toInt x3
          have w_43 := Int32.toInt_lt z0
          have w_44 := Int32.le_toInt z0
          exact ih62 x1 x2 x3 z0 σ mσ fσ nσ_1 (by first | with_reducible assumption | with_reducible rfl | omega | assumption | rfl) (by first | with_reducible assumption | with_reducible rfl | omega | assumption | rfl) (by omega)
        · intro q_35
          have w_45 := Int32.toInt_lt x2
          have w_46 := Int32.le_toInt x2
          have b_47 : ¬ x2.toInt = 0 := fun h9 => q_35 (Int32.toInt_inj.mp h9)
          refine ⟨?_, ?_⟩
          · intro q_48
            have w_49 := Int32.toInt_lt x3
            have w_50 := Int32.le_toInt x3
            have b_51 : ¬ x3.toInt = 0 := fun h9 => q_48 (Int32.toInt_inj.mp h9)
            have w_52 := Int32.toInt_lt x1
            have w_53 := Int32.le_toInt x1
            have w_54 := Int32.toInt_lt z0
            have w_55 := Int32.le_toInt z0
            exact ih62 x1 x2 x3 z0 σ mσ fσ nσ_1 (by first | with_reducible assumption | with_reducible rfl | omega | assumption | rfl) (by first | with_reducible assumption | with_reducible rfl | omega | assumption | rfl) (by omega)
          · intro q_48
            have w_56 := Int32.toInt_lt x3
            have w_57 := Int32.le_toInt x3
            have b_58 : x3.toInt = 0 := congrArg Int32.toInt q_48
            refine ⟨?_, ?_⟩
            · intro q_59
              have w_60 := Int32.toInt_lt z0
              have w_61 := Int32.le_toInt z0
              have b_62 : ¬ z0.toInt = 0 := fun h9 => q_59 (Int32.toInt_inj.mp h9)
              have w_63 := Int32.toInt_lt x1
              have w_64 := Int32.le_toInt x1
              exact ih62 x1 x2 x3 z0 σ mσ fσ nσ_1 (by first | with_reducible assumption | with_reducible rfl | omega | assumption | rfl) (by first | with_reducible assumption | with_reducible rfl | omega | assumption | rfl) (by omega)
            · intro q_59
              have w_65 := Int32.toInt_lt z0
              have w_66 := Int32.le_toInt z0
              have b_67 : z0.toInt = 0 := congrArg Int32.toInt q_59
              have z_68 : (-1 : Int32).toInt = -1 := rfl
              exact h9ret (-1 : Int32) σ mσ fσ nσ_1
      · intro x1 x2 x3 x4 σ mσ fσ nσ_1 i0 i1 hmu
        have k_69 : (gi σ 1 1).toInt = (gi σ0 1 1).toInt := congrArg Int32.toInt (FX_i fσ (show ¬ (1 = 34 ∨ 1 = 35 ∨ 1 = 36 ∨ 1 = 37 ∨ 1 = 38 ∨ 1 = 39 ∨ 1 = 40 ∨ 1 = 47 ∨ 1 = 48) from by omega) (show ¬ ((1 = 33 ∧ 1 = 1) ∨ (1 = 33 ∧ 1 = 3) ∨ (1 = 33 ∧ 1 = 9) ∨ (1 = 33 ∧ 1 = 10) ∨ (1 = 33 ∧ 1 = 11)) from by omega))
        have t_70 := XI_c1 mσ (id := 1) (k := 1) (lim_C0_1 (Or.inl rfl))
        have k_71 : (gi σ 1 9).toInt = (gi σ0 1 9).toInt := congrArg Int32.toInt (FX_i fσ (show ¬ (1 = 34 ∨ 1 = 35 ∨ 1 = 36 ∨ 1 = 37 ∨ 1 = 38 ∨ 1 = 39 ∨ 1 = 40 ∨ 1 = 47 ∨ 1 = 48) from by omega) (show ¬ ((1 = 33 ∧ 9 = 1) ∨ (1 = 33 ∧ 9 = 3) ∨ (1 = 33 ∧ 9 = 9) ∨ (1 = 33 ∧ 9 = 10) ∨ (1 = 33 ∧ 9 = 11)) from by omega))
        have t_72 := XI_c1 mσ (id := 1) (k := 9) (lim_C0_9 (Or.inl rfl))
        refine s_X11_on_62 C hN  ?_
        refine ⟨?_, ?_⟩
        · intro q_73
          have w_74 := Int32.toInt_lt x1
          have w_75 := Int32.le_toInt x1
          have b_76 : x1.toInt < 0 := Int32.lt_iff_toInt_lt.mp q_73
          have z_77 : (-2 : Int32).toInt = -2 := rfl
          exact h9ret (-2 : Int32) σ mσ fσ nσ_1
        · intro q_73
          have w_78 := Int32.toInt_lt x1
          have w_79 := Int32.le_toInt x1
          have b_80 : ¬ x1.toInt < 0 := fun h9 => q_73 (Int32.lt_iff_toInt_lt.mpr h9)
          refine ⟨?_, ?_⟩
          · intro q_81
            have b_82 : x1.toInt ≤ 60 := Int32.le_iff_toInt_le.mp q_81
            have z_83 : (1 : Int32).toInt = 1 := rfl
            refine k_X1_becomes (Or.inr (Or.inr rfl)) (Or.inl rfl) mσ nσ_1 (by first | with_reducible assumption | with_reducible rfl | omega | assumption | rfl) (fun σ3 mσ3 cσ3 nσ3_1 nσ3_33 (pσ3_0 : (gi σ3 33 1).toInt = (gi σ 1 1).toInt) (pσ3_1 : (gi σ3 33 3).toInt = (gi σ 1 3).toInt) (pσ3_2 : (gi σ3 33 9).toInt = (gi σ 1 9).toInt) (pσ3_3 : CPY σ σ3 33 1) => ?_)
            have fσ3 : FX (fun id => id = 34 ∨ id = 35 ∨ id = 36 ∨ id = 37 ∨ id = 38 ∨ id = 39 ∨ id = 40 ∨ id = 47 ∨ id = 48) (fun id k => (id = 33 ∧ k = 1) ∨ (id = 33 ∧ k = 3) ∨ (id = 33 ∧ k = 9) ∨ (id = 33 ∧ k = 10) ∨ (id = 33 ∧ k = 11)) σ0 σ3 := FX_tr fσ cσ3 (fun x (h9 : x = 34 ∨ x = 35 ∨ x = 36 ∨ x = 37 ∨ x = 38 ∨ x = 39 ∨ x = 40) => h9.elim (fun e9 => (show x = 34 ∨ x = 35 ∨ x = 36 ∨ x = 37 ∨ x = 38 ∨ x = 39 ∨ x = 40 ∨ x = 47 ∨ x = 48 from Or.inl (e9))) (fun h9 => h9.elim (fun e9 => (show x = 34 ∨ x = 35 ∨ x = 36 ∨ x = 37 ∨ x = 38 ∨ x = 39 ∨ x = 40 ∨ x = 47 ∨ x = 48 from Or.inr (Or.inl (e9)))) (fun h9 => h9.elim (fun e9 => (show x = 34 ∨ x = 35 ∨ x = 36 ∨ x = 37 ∨ x = 38 ∨ x = 39 ∨ x = 40 ∨ x = 47 ∨ x = 48 from Or.inr (Or.inr (Or.inl (e9))))) (fun h9 => h9.elim (fun e9 => (show x = 34 ∨ x = 35 ∨ x = 36 ∨ x = 37 ∨ x = 38 ∨ x = 39 ∨ x = 40 ∨ x = 47 ∨ x = 48 from Or.inr (Or.inr (Or.inr (Or.inl (e9)))))) (fun h9 => h9.elim (fun e9 => (show x = 34 ∨ x = 35 ∨ x = 36 ∨ x = 37 ∨ x = 38 ∨ x = 39 ∨ x = 40 ∨ x = 47 ∨ x = 48 from Or.inr (Or.inr (Or.inr (Or.inr (Or.inl (e9))))))) (fun h9 => h9.elim (fun e9 => (show x = 34 ∨ x = 35 ∨ x = 36 ∨ x = 37 ∨ x = 38 ∨ x = 39 ∨ x = 40 ∨ x = 47 ∨ x = 48 from Or.inr (Or.inr (Or.inr (Or.inr (Or.inr (Or.inl (e9)))))))) (fun h9 => (show x = 34 ∨ x = 35 ∨ x = 36 ∨ x = 37 ∨ x = 38 ∨ x = 39 ∨ x = 40 ∨ x = 47 ∨ x = 48 from Or.inr (Or.inr (Or.inr (Or.inr (Or.inr (Or.inr (Or.inl (h9))))))))))))))) (fun x k (h9 : (x = 33 ∧ k = 1) ∨ (x = 33 ∧ k = 3) ∨ (x = 33 ∧ k = 9) ∨ (x = 33 ∧ k = 10) ∨ (x = 33 ∧ k = 11)) => (show (x = 34 ∨ x = 35 ∨ x = 36 ∨ x = 37 ∨ x = 38 ∨ x = 39 ∨ x = 40 ∨ x = 47 ∨ x = 48) ∨ ((x = 33 ∧ k = 1) ∨ (x = 33 ∧ k = 3) ∨ (x = 33 ∧ k = 9) ∨ (x = 33 ∧ k = 10) ∨ (x = 33 ∧ k = 11)) from h9.elim (fun e9 => Or.inr (show (x = 33 ∧ k = 1) ∨ (x = 33 ∧ k = 3) ∨ (x = 33 ∧ k = 9) ∨ (x = 33 ∧ k = 10) ∨ (x = 33 ∧ k = 11) from Or.inl (e9))) (fun h9 => h9.elim (fun e9 => Or.inr (show (x = 33 ∧ k = 1) ∨ (x = 33 ∧ k = 3) ∨ (x = 33 ∧ k = 9) ∨ (x = 33 ∧ k = 10) ∨ (x = 33 ∧ k = 11) from Or.inr (Or.inl (e9)))) (fun h9 => h9.elim (fun e9 => Or.inr (show (x = 33 ∧ k = 1) ∨ (x = 33 ∧ k = 3) ∨ (x = 33 ∧ k = 9) ∨ (x = 33 ∧ k = 10) ∨ (x = 33 ∧ k = 11) from Or.inr (Or.inr (Or.inl (e9))))) (fun h9 => h9.elim (fun e9 => Or.inr (show (x = 33 ∧ k = 1) ∨ (x = 33 ∧ k = 3) ∨ (x = 33 ∧ k = 9) ∨ (x = 33 ∧ k = 10) ∨ (x = 33 ∧ k = 11) from Or.inr (Or.inr (Or.inr (Or.inl (e9)))))) (fun h9 => Or.inr (show (x = 33 ∧ k = 1) ∨ (x = 33 ∧ k = 3) ∨ (x = 33 ∧ k = 9) ∨ (x = 33 ∧ k = 10) ∨ (x = 33 ∧ k = 11) from Or.inr (Or.inr (Or.inr (Or.inr (h9)))))))))))
            have k_84 : (gi σ3 1 1).toInt = (gi σ 1 1).toInt := congrArg Int32.toInt (FX_i cσ3 (show ¬ (1 = 34 ∨ 1 = 35 ∨ 1 = 36 ∨ 1 = 37 ∨ 1 = 38 ∨ 1 = 39 ∨ 1 = 40) from by omega) (show ¬ ((1 = 33 ∧ 1 = 1) ∨ (1 = 33 ∧ 1 = 3) ∨ (1 = 33 ∧ 1 = 9) ∨ (1 = 33 ∧ 1 = 10) ∨ (1 = 33 ∧ 1 = 11)) from by omega))
            have k_85 : (gi σ3 1 9).toInt = (gi σ 1 9).toInt := congrArg Int32.toInt (FX_i cσ3 (show ¬ (1 = 34 ∨ 1 = 35 ∨ 1 = 36 ∨ 1 = 37 ∨ 1 = 38 ∨ 1 = 39 ∨ 1 = 40) from by omega) (show ¬ ((1 = 33 ∧ 9 = 1) ∨ (1 = 33 ∧ 9 = 3) ∨ (1 = 33 ∧ 9 = 9) ∨ (1 = 33 ∧ 9 = 10) ∨ (1 = 33 ∧ 9 = 11)) from by omega))
            refine ⟨?_, ?_⟩
            · intro q_86
              have w_87 := Int32.toInt_lt x4
              have w_88 := Int32.le_toInt x4
              have b_89 : x4.toInt = 0 := congrArg Int32.toInt q_86
              refine k_X1_goes (Or.inr (Or.inr rfl)) mσ3 nσ3_33 (by omega) (by omega) (by first | with_reducible assumption | with_reducible rfl | omega | assumption | rfl) (fun σ5 mσ5 cσ5 nσ5_33 (pσ5_0 : (gi σ5 33 9).toInt = (gi σ3 33 9).toInt + x1.toInt) => ?_)
              have fσ5 : FX (fun id => id = 34 ∨ id = 35 ∨ id = 36 ∨ id = 37 ∨ id = 38 ∨ id = 39 ∨ id = 40 ∨ id = 47 ∨ id = 48) (fun id k => (id = 33 ∧ k = 1) ∨ (id = 33 ∧ k = 3) ∨ (id = 33 ∧ k = 9) ∨ (id = 33 ∧ k = 10) ∨ (id = 33 ∧ k = 11)) σ0 σ5 := FX_tr fσ3 cσ5 (fun x (h9 : x = 47 ∨ x = 48 ∨ x = 36 ∨ x = 37 ∨ x = 38 ∨ x = 39) => h9.elim (fun e9 => (show x = 34 ∨ x = 35 ∨ x = 36 ∨ x = 37 ∨ x = 38 ∨ x = 39 ∨ x = 40 ∨ x = 47 ∨ x = 48 from Or.inr (Or.inr (Or.inr (Or.inr (Or.inr (Or.inr (Or.inr (Or.inl (e9)))))))))) (fun h9 => h9.elim (fun e9 => (show x = 34 ∨ x = 35 ∨ x = 36 ∨ x = 37 ∨ x = 38 ∨ x = 39 ∨ x = 40 ∨ x = 47 ∨ x = 48 from Or.inr (Or.inr (Or.inr (Or.inr (Or.inr (Or.inr (Or.inr (Or.inr (e9)))))))))) (fun h9 => h9.elim (fun e9 => (show x = 34 ∨ x = 35 ∨ x = 36 ∨ x = 37 ∨ x = 38 ∨ x = 39 ∨ x = 40 ∨ x = 47 ∨ x = 48 from Or.inr (Or.inr (Or.inl (e9))))) (fun h9 => h9.elim (fun e9 => (show x = 34 ∨ x = 35 ∨ x = 36 ∨ x = 37 ∨ x = 38 ∨ x = 39 ∨ x = 40 ∨ x = 47 ∨ x = 48 from Or.inr (Or.inr (Or.inr (Or.inl (e9)))))) (fun h9 => h9.elim (fun e9 => (show x = 34 ∨ x = 35 ∨ x = 36 ∨ x = 37 ∨ x = 38 ∨ x = 39 ∨ x = 40 ∨ x = 47 ∨ x = 48 from Or.inr (Or.inr (Or.inr (Or.inr (Or.inl (e9))))))) (fun h9 => (show x = 34 ∨ x = 35 ∨ x = 36 ∨ x = 37 ∨ x = 38 ∨ x = 39 ∨ x = 40 ∨ x = 47 ∨ x = 48 from Or.inr (Or.inr (Or.inr (Or.inr (Or.inr (Or.inl (h9))))))))))))) (fun x k (h9 : (x = 33 ∧ k = 9)) => (show (x = 34 ∨ x = 35 ∨ x = 36 ∨ x = 37 ∨ x = 38 ∨ x = 39 ∨ x = 40 ∨ x = 47 ∨ x = 48) ∨ ((x = 33 ∧ k = 1) ∨ (x = 33 ∧ k = 3) ∨ (x = 33 ∧ k = 9) ∨ (x = 33 ∧ k = 10) ∨ (x = 33 ∧ k = 11)) from Or.inr (show (x = 33 ∧ k = 1) ∨ (x = 33 ∧ k = 3) ∨ (x = 33 ∧ k = 9) ∨ (x = 33 ∧ k = 10) ∨ (x = 33 ∧ k = 11) from Or.inr (Or.inr (Or.inl (h9))))))
              have k_90 : (gi σ5 1 1).toInt = (gi σ3 1 1).toInt := congrArg Int32.toInt (FX_i cσ5 (show ¬ (1 = 47 ∨ 1 = 48 ∨ 1 = 36 ∨ 1 = 37 ∨ 1 = 38 ∨ 1 = 39) from by omega) (show ¬ ((1 = 33 ∧ 1 = 9)) from by omega))
              have k_91 : (gi σ5 1 9).toInt = (gi σ3 1 9).toInt := congrArg Int32.toInt (FX_i cσ5 (show ¬ (1 = 47 ∨ 1 = 48 ∨ 1 = 36 ∨ 1 = 37 ∨ 1 = 38 ∨ 1 = 39) from by omega) (show ¬ ((1 = 33 ∧ 9 = 9)) from by omega))
              have nσ5_1 : NN σ5 1 := NN_fx nσ3_1 cσ5 (show ¬ (1 = 47 ∨ 1 = 48 ∨ 1 = 36 ∨ 1 = 37 ∨ 1 = 38 ∨ 1 = 39) from by omega) (show ¬ (2 = 47 ∨ 2 = 48 ∨ 2 = 36 ∨ 2 = 37 ∨ 2 = 38 ∨ 2 = 39) from by omega) (show ¬ (3 = 47 ∨ 3 = 48 ∨ 3 = 36 ∨ 3 = 37 ∨ 3 = 38 ∨ 3 = 39) from by omega) (show ¬ ((1 = 33 ∧ 1 = 9)) from by omega) (show ¬ ((1 = 33 ∧ 3 = 9)) from by omega) (fun k (h9 : (2 = 33 ∧ k = 9)) => by omega) (fun k (h9 : (3 = 33 ∧ k = 9)) => by omega)
              refine ⟨?_, ?_⟩
              · intro q_92
                have w_93 := Int32.toInt_lt x3
                have w_94 := Int32.le_toInt x3
                have b_95 : x3.toInt = 0 := congrArg Int32.toInt q_92
                refine k_X1_allAt (Or.inr (Or.inr rfl)) mσ5   (fun r8 σ7 mσ7 cσ7 => ?_)
                obtain rfl := FX_nil cσ7
                have t_96 := XI_c1 mσ5 (id := 1) (k := 1) (lim_C0_1 (Or.inl rfl))
                have t_97 := XI_c1 mσ5 (id := 1) (k := 9) (lim_C0_9 (Or.inl rfl))
                exact h9ret r8 σ5 mσ5 fσ5 nσ5_1
              · intro q_92
                have w_98 := Int32.toInt_lt x3
                have w_99 := Int32.le_toInt x3
                have b_100 : ¬ x3.toInt = 0 := fun h9 => q_92 (Int32.toInt_inj.mp h9)
                have w_101 := Int32.toInt_lt x2
                have w_102 := Int32.le_toInt x2
                try have t_103 : (x2 - (10 : Int32)).toInt = x2.toInt - 10 := i_sub (x := x2) (y := (10 : Int32)) (by show (_ : Int) ≤ x2.toInt - 10; omega) (by show x2.toInt - 10 ≤ (_ : Int); omega)
                have hv_104 : vp_in (x2 - (10 : Int32)) 6 := vp_in_iff.mpr ⟨by omega, by omega⟩
                refine ⟨hv_104, ?_⟩
                exact h9ret (gi σ5 36 (x2 - (10 : Int32)).toNatClampNeg) σ5 mσ5 fσ5 nσ5_1
            · intro q_86
              have w_105 := Int32.toInt_lt x4
              have w_106 := Int32.le_toInt x4
              have b_107 : ¬ x4.toInt = 0 := fun h9 => q_86 (Int32.toInt_inj.mp h9)
              have w_108 := Int32.toInt_lt x2
              have w_109 := Int32.le_toInt x2
              try have t_110 : (x2 - (20 : Int32)).toInt = x2.toInt - 20 := i_sub (x := x2) (y := (20 : Int32)) (by show (_ : Int) ≤ x2.toInt - 20; omega) (by show x2.toInt - 20 ≤ (_ : Int); omega)
              refine k_X11_heldTimes  mσ3 nσ3_33 (by omega) (by omega) (by first | with_reducible assumption | with_reducible rfl | omega | assumption | rfl) (fun r11 σ10 mσ10 cσ10 nσ10_33 => ?_)
              have fσ10 : FX (fun id => id = 34 ∨ id = 35 ∨ id = 36 ∨ id = 37 ∨ id = 38 ∨ id = 39 ∨ id = 40 ∨ id = 47 ∨ id = 48) (fun id k => (id = 33 ∧ k = 1) ∨ (id = 33 ∧ k = 3) ∨ (id = 33 ∧ k = 9) ∨ (id = 33 ∧ k = 10) ∨ (id = 33 ∧ k = 11)) σ0 σ10 := FX_tr fσ3 cσ10 (fun x (h9 : x = 36 ∨ x = 37 ∨ x = 38 ∨ x = 39 ∨ x = 47 ∨ x = 48) => h9.elim (fun e9 => (show x = 34 ∨ x = 35 ∨ x = 36 ∨ x = 37 ∨ x = 38 ∨ x = 39 ∨ x = 40 ∨ x = 47 ∨ x = 48 from Or.inr (Or.inr (Or.inl (e9))))) (fun h9 => h9.elim (fun e9 => (show x = 34 ∨ x = 35 ∨ x = 36 ∨ x = 37 ∨ x = 38 ∨ x = 39 ∨ x = 40 ∨ x = 47 ∨ x = 48 from Or.inr (Or.inr (Or.inr (Or.inl (e9)))))) (fun h9 => h9.elim (fun e9 => (show x = 34 ∨ x = 35 ∨ x = 36 ∨ x = 37 ∨ x = 38 ∨ x = 39 ∨ x = 40 ∨ x = 47 ∨ x = 48 from Or.inr (Or.inr (Or.inr (Or.inr (Or.inl (e9))))))) (fun h9 => h9.elim (fun e9 => (show x = 34 ∨ x = 35 ∨ x = 36 ∨ x = 37 ∨ x = 38 ∨ x = 39 ∨ x = 40 ∨ x = 47 ∨ x = 48 from Or.inr (Or.inr (Or.inr (Or.inr (Or.inr (Or.inl (e9)))))))) (fun h9 => h9.elim (fun e9 => (show x = 34 ∨ x = 35 ∨ x = 36 ∨ x = 37 ∨ x = 38 ∨ x = 39 ∨ x = 40 ∨ x = 47 ∨ x = 48 from Or.inr (Or.inr (Or.inr (Or.inr (Or.inr (Or.inr (Or.inr (Or.inl (e9)))))))))) (fun h9 => (show x = 34 ∨ x = 35 ∨ x = 36 ∨ x = 37 ∨ x = 38 ∨ x = 39 ∨ x = 40 ∨ x = 47 ∨ x = 48 from Or.inr (Or.inr (Or.inr (Or.inr (Or.inr (Or.inr (Or.inr (Or.inr (h9))))))))))))))) (fun x k (h9 : (x = 33 ∧ k = 9)) => (show (x = 34 ∨ x = 35 ∨ x = 36 ∨ x = 37 ∨ x = 38 ∨ x = 39 ∨ x = 40 ∨ x = 47 ∨ x = 48) ∨ ((x = 33 ∧ k = 1) ∨ (x = 33 ∧ k = 3) ∨ (x = 33 ∧ k = 9) ∨ (x = 33 ∧ k = 10) ∨ (x = 33 ∧ k = 11)) from Or.inr (show (x = 33 ∧ k = 1) ∨ (x = 33 ∧ k = 3) ∨ (x = 33 ∧ k = 9) ∨ (x = 33 ∧ k = 10) ∨ (x = 33 ∧ k = 11) from Or.inr (Or.inr (Or.inl (h9))))))
              have k_111 : (gi σ10 1 1).toInt = (gi σ3 1 1).toInt := congrArg Int32.toInt (FX_i cσ10 (show ¬ (1 = 36 ∨ 1 = 37 ∨ 1 = 38 ∨ 1 = 39 ∨ 1 = 47 ∨ 1 = 48) from by omega) (show ¬ ((1 = 33 ∧ 1 = 9)) from by omega))
              have k_112 : (gi σ10 1 9).toInt = (gi σ3 1 9).toInt := congrArg Int32.toInt (FX_i cσ10 (show ¬ (1 = 36 ∨ 1 = 37 ∨ 1 = 38 ∨ 1 = 39 ∨ 1 = 47 ∨ 1 = 48) from by omega) (show ¬ ((1 = 33 ∧ 9 = 9)) from by omega))
              have nσ10_1 : NN σ10 1 := NN_fx nσ3_1 cσ10 (show ¬ (1 = 36 ∨ 1 = 37 ∨ 1 = 38 ∨ 1 = 39 ∨ 1 = 47 ∨ 1 = 48) from by omega) (show ¬ (2 = 36 ∨ 2 = 37 ∨ 2 = 38 ∨ 2 = 39 ∨ 2 = 47 ∨ 2 = 48) from by omega) (show ¬ (3 = 36 ∨ 3 = 37 ∨ 3 = 38 ∨ 3 = 39 ∨ 3 = 47 ∨ 3 = 48) from by omega) (show ¬ ((1 = 33 ∧ 1 = 9)) from by omega) (show ¬ ((1 = 33 ∧ 3 = 9)) from by omega) (fun k (h9 : (2 = 33 ∧ k = 9)) => by omega) (fun k (h9 : (3 = 33 ∧ k = 9)) => by omega)
              exact h9ret r11 σ10 mσ10 fσ10 nσ10_1
          · intro q_81
            have b_113 : ¬ x1.toInt ≤ 60 := fun h9 => q_81 (Int32.le_iff_toInt_le.mpr h9)
            have z_114 : (-2 : Int32).toInt = -2 := rfl
            exact h9ret (-2 : Int32) σ mσ fσ nσ_1
  obtain ⟨U22, U45, U62⟩ := T 9
  have f0 : FX (fun id => id = 34 ∨ id = 35 ∨ id = 36 ∨ id = 37 ∨ id = 38 ∨ id = 39 ∨ id = 40 ∨ id = 47 ∨ id = 48) (fun id k => (id = 33 ∧ k = 1) ∨ (id = 33 ∧ k = 3) ∨ (id = 33 ∧ k = 9) ∨ (id = 33 ∧ k = 10) ∨ (id = 33 ∧ k = 11)) σ0 σ0 := FX_rf
  have t_115 := XI_c1 m0 (id := 1) (k := 1) (lim_C0_1 (Or.inl rfl))
  have t_116 := XI_c1 m0 (id := 1) (k := 9) (lim_C0_9 (Or.inl rfl))
  refine s_X11_on_0 C hN  ?_
  refine ⟨?_, ?_⟩
  · intro q_117
    have w_118 := Int32.toInt_lt a2
    have w_119 := Int32.le_toInt a2
    have b_120 : a2.toInt < 10 := Int32.lt_iff_toInt_lt.mp q_117
    have w_121 := Int32.toInt_lt a1
    have w_122 := Int32.le_toInt a1
    have z_123 : (0 : Int32).toInt = 0 := rfl
    exact U22 a1 a2 (0 : Int32) σ0 m0 f0 nn_1 (by first | with_reducible assumption | with_reducible rfl | omega | assumption | rfl) (by omega)
  · intro q_117
    have w_124 := Int32.toInt_lt a2
    have w_125 := Int32.le_toInt a2
    have b_126 : ¬ a2.toInt < 10 := fun h9 => q_117 (Int32.lt_iff_toInt_lt.mpr h9)
    try have t_127 : (a2 - (10 : Int32)).toInt = a2.toInt - 10 := i_sub (x := a2) (y := (10 : Int32)) (by show (_ : Int) ≤ a2.toInt - 10; omega) (by show a2.toInt - 10 ≤ (_ : Int); omega)
    refine k_X11_isMower  m0   (fun r3 σ2 mσ2 cσ2 plσ2 phσ2 (pσ2_0 : (r3.toInt = 1 ∧ 0 ≤ (a2 - (10 : Int32)).toInt ∧ (a2 - (10 : Int32)).toInt < (gi σ0 1 1).toInt) ∨ (r3.toInt = 0 ∧ ((a2 - (10 : Int32)).toInt < 0 ∨ (gi σ0 1 1).toInt ≤ (a2 - (10 : Int32)).toInt))) => ?_)
    obtain rfl := FX_nil cσ2
    refine ⟨?_, ?_⟩
    · intro q_128
      have b_129 : r3.toInt = 0 := congrArg Int32.toInt q_128
      have w_130 := Int32.toInt_lt a1
      have w_131 := Int32.le_toInt a1
      have z_132 : (0 : Int32).toInt = 0 := rfl
      exact U22 a1 a2 (0 : Int32) σ0 m0 f0 nn_1 (by first | with_reducible assumption | with_reducible rfl | omega | assumption | rfl) (by omega)
    · intro q_128
      have b_133 : ¬ r3.toInt = 0 := fun h9 => q_128 (Int32.toInt_inj.mp h9)
      have w_134 := Int32.toInt_lt a1
      have w_135 := Int32.le_toInt a1
      have z_136 : (1 : Int32).toInt = 1 := rfl
      exact U22 a1 a2 (1 : Int32) σ0 m0 f0 nn_1 (by first | with_reducible assumption | with_reducible rfl | omega | assumption | rfl) (by omega)
set_option maxRecDepth 100000 in
set_option maxHeartbeats 4000000 in
theorem k_X11_done {l : Launch} {V : Vx} {σ0 : Sg} {Qk : Int32 → Sg → Prop} (m0 : XI V σ0) (nn_1 : NN σ0 1) (pre0 : (gi σ0 1 9).toInt ≤ 9999) (h9ret : ∀ (r : Int32) (σ' : Sg), XI V σ' → FX (fun id => id = 34 ∨ id = 35 ∨ id = 36 ∨ id = 37 ∨ id = 38 ∨ id = 39 ∨ id = 40 ∨ id = 47 ∨ id = 48) (fun id k => (id = 33 ∧ k = 1) ∨ (id = 33 ∧ k = 3) ∨ (id = 33 ∧ k = 9) ∨ (id = 33 ∧ k = 10) ∨ (id = 33 ∧ k = 11)) σ0 σ' → (NN σ' 1) → Qk r σ') : K_X11_done l V σ0 Qk := by
  refine e_X11_done (fun M hl hV hN C => ?_)
  subst hl
  subst hV
  have T : ∀ n : Nat, (∀ (x1 : Int32) (σ : Sg), XI (mV M) σ → FX (fun id => id = 34 ∨ id = 35 ∨ id = 36 ∨ id = 37 ∨ id = 38 ∨ id = 39 ∨ id = 40 ∨ id = 47 ∨ id = 48) (fun id k => (id = 33 ∧ k = 1) ∨ (id = 33 ∧ k = 3) ∨ (id = 33 ∧ k = 9) ∨ (id = 33 ∧ k = 10) ∨ (id = 33 ∧ k = 11)) σ0 σ → NN σ 1 → NN σ 33 → (0 ≤ x1.toInt) → (x1.toInt ≤ 121) → ((gi σ 33 9).toInt ≤ 9999 + x1.toInt) → (122 - x1.toInt).toNat < n → PS M 13 [(0, .ref 0), (1, .int x1)] [] σ (0, 0)) := by
    intro n
    induction n with
    | zero => exact fun _ _ _ _ _ _ _ _ _ h8 => absurd h8 (Nat.not_lt_zero _)
    | succ n ih =>
      have ih13 := ih
      · intro x1 σ mσ fσ nσ_1 nσ_33 lx1 ux1 i0 hmu
        have k_1 : (gi σ 1 1).toInt = (gi σ0 1 1).toInt := congrArg Int32.toInt (FX_i fσ (show ¬ (1 = 34 ∨ 1 = 35 ∨ 1 = 36 ∨ 1 = 37 ∨ 1 = 38 ∨ 1 = 39 ∨ 1 = 40 ∨ 1 = 47 ∨ 1 = 48) from by omega) (show ¬ ((1 = 33 ∧ 1 = 1) ∨ (1 = 33 ∧ 1 = 3) ∨ (1 = 33 ∧ 1 = 9) ∨ (1 = 33 ∧ 1 = 10) ∨ (1 = 33 ∧ 1 = 11)) from by omega))
        have t_2 := XI_c1 mσ (id := 1) (k := 1) (lim_C0_1 (Or.inl rfl))
        have k_3 : (gi σ 1 9).toInt = (gi σ0 1 9).toInt := congrArg Int32.toInt (FX_i fσ (show ¬ (1 = 34 ∨ 1 = 35 ∨ 1 = 36 ∨ 1 = 37 ∨ 1 = 38 ∨ 1 = 39 ∨ 1 = 40 ∨ 1 = 47 ∨ 1 = 48) from by omega) (show ¬ ((1 = 33 ∧ 9 = 1) ∨ (1 = 33 ∧ 9 = 3) ∨ (1 = 33 ∧ 9 = 9) ∨ (1 = 33 ∧ 9 = 10) ∨ (1 = 33 ∧ 9 = 11)) from by omega))
        have t_4 := XI_c1 mσ (id := 1) (k := 9) (lim_C0_9 (Or.inl rfl))
        have t_5 := XI_c1 mσ (id := 33) (k := 9) (lim_C0_9 (Or.inr (Or.inr rfl)))
        refine s_X11_done_13 C hN  ?_
        refine ⟨?_, ?_⟩
        · intro q_6
          have b_7 : (120 : Int) < x1.toInt := Int32.lt_iff_toInt_lt.mp q_6
          have z_8 : (-5 : Int32).toInt = -5 := rfl
          exact h9ret (-5 : Int32) σ mσ fσ nσ_1
        · intro q_6
          have b_9 : ¬ (120 : Int) < x1.toInt := fun h9 => q_6 (Int32.lt_iff_toInt_lt.mpr h9)
          refine k_X1_isDone (Or.inr (Or.inr rfl)) mσ   (fun r3 σ2 mσ2 cσ2 plσ2 phσ2 => ?_)
          obtain rfl := FX_nil cσ2
          refine ⟨?_, ?_⟩
          · intro q_10
            have b_11 : r3.toInt = 0 := congrArg Int32.toInt q_10
            refine k_X1_goesMinute (Or.inr (Or.inr rfl)) mσ nσ_33 (by first | with_reducible assumption | with_reducible rfl | omega | assumption | rfl) (fun r6 σ5 mσ5 cσ5 nσ5_33 (pσ5_0 : (gi σ5 33 9).toInt = (gi σ 33 9).toInt + 1) => ?_)
            have fσ5 : FX (fun id => id = 34 ∨ id = 35 ∨ id = 36 ∨ id = 37 ∨ id = 38 ∨ id = 39 ∨ id = 40 ∨ id = 47 ∨ id = 48) (fun id k => (id = 33 ∧ k = 1) ∨ (id = 33 ∧ k = 3) ∨ (id = 33 ∧ k = 9) ∨ (id = 33 ∧ k = 10) ∨ (id = 33 ∧ k = 11)) σ0 σ5 := FX_tr fσ cσ5 (fun x (h9 : x = 47 ∨ x = 48 ∨ x = 36 ∨ x = 37 ∨ x = 38 ∨ x = 39) => h9.elim (fun e9 => (show x = 34 ∨ x = 35 ∨ x = 36 ∨ x = 37 ∨ x = 38 ∨ x = 39 ∨ x = 40 ∨ x = 47 ∨ x = 48 from Or.inr (Or.inr (Or.inr (Or.inr (Or.inr (Or.inr (Or.inr (Or.inl (e9)))))))))) (fun h9 => h9.elim (fun e9 => (show x = 34 ∨ x = 35 ∨ x = 36 ∨ x = 37 ∨ x = 38 ∨ x = 39 ∨ x = 40 ∨ x = 47 ∨ x = 48 from Or.inr (Or.inr (Or.inr (Or.inr (Or.inr (Or.inr (Or.inr (Or.inr (e9)))))))))) (fun h9 => h9.elim (fun e9 => (show x = 34 ∨ x = 35 ∨ x = 36 ∨ x = 37 ∨ x = 38 ∨ x = 39 ∨ x = 40 ∨ x = 47 ∨ x = 48 from Or.inr (Or.inr (Or.inl (e9))))) (fun h9 => h9.elim (fun e9 => (show x = 34 ∨ x = 35 ∨ x = 36 ∨ x = 37 ∨ x = 38 ∨ x = 39 ∨ x = 40 ∨ x = 47 ∨ x = 48 from Or.inr (Or.inr (Or.inr (Or.inl (e9)))))) (fun h9 => h9.elim (fun e9 => (show x = 34 ∨ x = 35 ∨ x = 36 ∨ x = 37 ∨ x = 38 ∨ x = 39 ∨ x = 40 ∨ x = 47 ∨ x = 48 from Or.inr (Or.inr (Or.inr (Or.inr (Or.inl (e9))))))) (fun h9 => (show x = 34 ∨ x = 35 ∨ x = 36 ∨ x = 37 ∨ x = 38 ∨ x = 39 ∨ x = 40 ∨ x = 47 ∨ x = 48 from Or.inr (Or.inr (Or.inr (Or.inr (Or.inr (Or.inl (h9))))))))))))) (fun x k (h9 : (x = 33 ∧ k = 9)) => (show (x = 34 ∨ x = 35 ∨ x = 36 ∨ x = 37 ∨ x = 38 ∨ x = 39 ∨ x = 40 ∨ x = 47 ∨ x = 48) ∨ ((x = 33 ∧ k = 1) ∨ (x = 33 ∧ k = 3) ∨ (x = 33 ∧ k = 9) ∨ (x = 33 ∧ k = 10) ∨ (x = 33 ∧ k = 11)) from Or.inr (show (x = 33 ∧ k = 1) ∨ (x = 33 ∧ k = 3) ∨ (x = 33 ∧ k = 9) ∨ (x = 33 ∧ k = 10) ∨ (x = 33 ∧ k = 11) from Or.inr (Or.inr (Or.inl (h9))))))
            have k_12 : (gi σ5 1 1).toInt = (gi σ 1 1).toInt := congrArg Int32.toInt (FX_i cσ5 (show ¬ (1 = 47 ∨ 1 = 48 ∨ 1 = 36 ∨ 1 = 37 ∨ 1 = 38 ∨ 1 = 39) from by omega) (show ¬ ((1 = 33 ∧ 1 = 9)) from by omega))
            have k_13 : (gi σ5 1 9).toInt = (gi σ 1 9).toInt := congrArg Int32.toInt (FX_i cσ5 (show ¬ (1 = 47 ∨ 1 = 48 ∨ 1 = 36 ∨ 1 = 37 ∨ 1 = 38 ∨ 1 = 39) from by omega) (show ¬ ((1 = 33 ∧ 9 = 9)) from by omega))
            have t_14 := XI_c1 mσ5 (id := 33) (k := 9) (lim_C0_9 (Or.inr (Or.inr rfl)))
            have nσ5_1 : NN σ5 1 := NN_fx nσ_1 cσ5 (show ¬ (1 = 47 ∨ 1 = 48 ∨ 1 = 36 ∨ 1 = 37 ∨ 1 = 38 ∨ 1 = 39) from by omega) (show ¬ (2 = 47 ∨ 2 = 48 ∨ 2 = 36 ∨ 2 = 37 ∨ 2 = 38 ∨ 2 = 39) from by omega) (show ¬ (3 = 47 ∨ 3 = 48 ∨ 3 = 36 ∨ 3 = 37 ∨ 3 = 38 ∨ 3 = 39) from by omega) (show ¬ ((1 = 33 ∧ 1 = 9)) from by omega) (show ¬ ((1 = 33 ∧ 3 = 9)) from by omega) (fun k (h9 : (2 = 33 ∧ k = 9)) => by omega) (fun k (h9 : (3 = 33 ∧ k = 9)) => by omega)
            intro v7 ev7
            have t_15 : (x1 + (1 : Int32)).toInt = x1.toInt + 1 := i_add (x := x1) (y := (1 : Int32)) (by show (_ : Int) ≤ x1.toInt + 1; omega) (by show x1.toInt + 1 ≤ (_ : Int); omega)
            have t_16 : v7.toInt = (x1 + (1 : Int32)).toInt := congrArg Int32.toInt ev7
            exact ih13 v7 σ5 mσ5 fσ5 nσ5_1 nσ5_33 (by omega) (by omega) (by first | with_reducible assumption | with_reducible rfl | omega | assumption | rfl) (by omega)
          · intro q_10
            have b_17 : ¬ r3.toInt = 0 := fun h9 => q_10 (Int32.toInt_inj.mp h9)
            exact h9ret x1 σ mσ fσ nσ_1
  have U13 := T 200
  have f0 : FX (fun id => id = 34 ∨ id = 35 ∨ id = 36 ∨ id = 37 ∨ id = 38 ∨ id = 39 ∨ id = 40 ∨ id = 47 ∨ id = 48) (fun id k => (id = 33 ∧ k = 1) ∨ (id = 33 ∧ k = 3) ∨ (id = 33 ∧ k = 9) ∨ (id = 33 ∧ k = 10) ∨ (id = 33 ∧ k = 11)) σ0 σ0 := FX_rf
  have t_18 := XI_c1 m0 (id := 1) (k := 1) (lim_C0_1 (Or.inl rfl))
  have t_19 := XI_c1 m0 (id := 1) (k := 9) (lim_C0_9 (Or.inl rfl))
  have t_20 := XI_c1 m0 (id := 33) (k := 9) (lim_C0_9 (Or.inr (Or.inr rfl)))
  refine s_X11_done_0 C hN  ?_
  have z_21 : (1 : Int32).toInt = 1 := rfl
  refine k_X1_becomes (Or.inr (Or.inr rfl)) (Or.inl rfl) m0 nn_1 (by first | with_reducible assumption | with_reducible rfl | omega | assumption | rfl) (fun σ1 mσ1 cσ1 nσ1_1 nσ1_33 (pσ1_0 : (gi σ1 33 1).toInt = (gi σ0 1 1).toInt) (pσ1_1 : (gi σ1 33 3).toInt = (gi σ0 1 3).toInt) (pσ1_2 : (gi σ1 33 9).toInt = (gi σ0 1 9).toInt) (pσ1_3 : CPY σ0 σ1 33 1) => ?_)
  have fσ1 : FX (fun id => id = 34 ∨ id = 35 ∨ id = 36 ∨ id = 37 ∨ id = 38 ∨ id = 39 ∨ id = 40 ∨ id = 47 ∨ id = 48) (fun id k => (id = 33 ∧ k = 1) ∨ (id = 33 ∧ k = 3) ∨ (id = 33 ∧ k = 9) ∨ (id = 33 ∧ k = 10) ∨ (id = 33 ∧ k = 11)) σ0 σ1 := FX_tr f0 cσ1 (fun x (h9 : x = 34 ∨ x = 35 ∨ x = 36 ∨ x = 37 ∨ x = 38 ∨ x = 39 ∨ x = 40) => h9.elim (fun e9 => (show x = 34 ∨ x = 35 ∨ x = 36 ∨ x = 37 ∨ x = 38 ∨ x = 39 ∨ x = 40 ∨ x = 47 ∨ x = 48 from Or.inl (e9))) (fun h9 => h9.elim (fun e9 => (show x = 34 ∨ x = 35 ∨ x = 36 ∨ x = 37 ∨ x = 38 ∨ x = 39 ∨ x = 40 ∨ x = 47 ∨ x = 48 from Or.inr (Or.inl (e9)))) (fun h9 => h9.elim (fun e9 => (show x = 34 ∨ x = 35 ∨ x = 36 ∨ x = 37 ∨ x = 38 ∨ x = 39 ∨ x = 40 ∨ x = 47 ∨ x = 48 from Or.inr (Or.inr (Or.inl (e9))))) (fun h9 => h9.elim (fun e9 => (show x = 34 ∨ x = 35 ∨ x = 36 ∨ x = 37 ∨ x = 38 ∨ x = 39 ∨ x = 40 ∨ x = 47 ∨ x = 48 from Or.inr (Or.inr (Or.inr (Or.inl (e9)))))) (fun h9 => h9.elim (fun e9 => (show x = 34 ∨ x = 35 ∨ x = 36 ∨ x = 37 ∨ x = 38 ∨ x = 39 ∨ x = 40 ∨ x = 47 ∨ x = 48 from Or.inr (Or.inr (Or.inr (Or.inr (Or.inl (e9))))))) (fun h9 => h9.elim (fun e9 => (show x = 34 ∨ x = 35 ∨ x = 36 ∨ x = 37 ∨ x = 38 ∨ x = 39 ∨ x = 40 ∨ x = 47 ∨ x = 48 from Or.inr (Or.inr (Or.inr (Or.inr (Or.inr (Or.inl (e9)))))))) (fun h9 => (show x = 34 ∨ x = 35 ∨ x = 36 ∨ x = 37 ∨ x = 38 ∨ x = 39 ∨ x = 40 ∨ x = 47 ∨ x = 48 from Or.inr (Or.inr (Or.inr (Or.inr (Or.inr (Or.inr (Or.inl (h9))))))))))))))) (fun x k (h9 : (x = 33 ∧ k = 1) ∨ (x = 33 ∧ k = 3) ∨ (x = 33 ∧ k = 9) ∨ (x = 33 ∧ k = 10) ∨ (x = 33 ∧ k = 11)) => (show (x = 34 ∨ x = 35 ∨ x = 36 ∨ x = 37 ∨ x = 38 ∨ x = 39 ∨ x = 40 ∨ x = 47 ∨ x = 48) ∨ ((x = 33 ∧ k = 1) ∨ (x = 33 ∧ k = 3) ∨ (x = 33 ∧ k = 9) ∨ (x = 33 ∧ k = 10) ∨ (x = 33 ∧ k = 11)) from h9.elim (fun e9 => Or.inr (show (x = 33 ∧ k = 1) ∨ (x = 33 ∧ k = 3) ∨ (x = 33 ∧ k = 9) ∨ (x = 33 ∧ k = 10) ∨ (x = 33 ∧ k = 11) from Or.inl (e9))) (fun h9 => h9.elim (fun e9 => Or.inr (show (x = 33 ∧ k = 1) ∨ (x = 33 ∧ k = 3) ∨ (x = 33 ∧ k = 9) ∨ (x = 33 ∧ k = 10) ∨ (x = 33 ∧ k = 11) from Or.inr (Or.inl (e9)))) (fun h9 => h9.elim (fun e9 => Or.inr (show (x = 33 ∧ k = 1) ∨ (x = 33 ∧ k = 3) ∨ (x = 33 ∧ k = 9) ∨ (x = 33 ∧ k = 10) ∨ (x = 33 ∧ k = 11) from Or.inr (Or.inr (Or.inl (e9))))) (fun h9 => h9.elim (fun e9 => Or.inr (show (x = 33 ∧ k = 1) ∨ (x = 33 ∧ k = 3) ∨ (x = 33 ∧ k = 9) ∨ (x = 33 ∧ k = 10) ∨ (x = 33 ∧ k = 11) from Or.inr (Or.inr (Or.inr (Or.inl (e9)))))) (fun h9 => Or.inr (show (x = 33 ∧ k = 1) ∨ (x = 33 ∧ k = 3) ∨ (x = 33 ∧ k = 9) ∨ (x = 33 ∧ k = 10) ∨ (x = 33 ∧ k = 11) from Or.inr (Or.inr (Or.inr (Or.inr (h9)))))))))))
  have k_22 : (gi σ1 1 1).toInt = (gi σ0 1 1).toInt := congrArg Int32.toInt (FX_i cσ1 (show ¬ (1 = 34 ∨ 1 = 35 ∨ 1 = 36 ∨ 1 = 37 ∨ 1 = 38 ∨ 1 = 39 ∨ 1 = 40) from by omega) (show ¬ ((1 = 33 ∧ 1 = 1) ∨ (1 = 33 ∧ 1 = 3) ∨ (1 = 33 ∧ 1 = 9) ∨ (1 = 33 ∧ 1 = 10) ∨ (1 = 33 ∧ 1 = 11)) from by omega))
  have k_23 : (gi σ1 1 9).toInt = (gi σ0 1 9).toInt := congrArg Int32.toInt (FX_i cσ1 (show ¬ (1 = 34 ∨ 1 = 35 ∨ 1 = 36 ∨ 1 = 37 ∨ 1 = 38 ∨ 1 = 39 ∨ 1 = 40) from by omega) (show ¬ ((1 = 33 ∧ 9 = 1) ∨ (1 = 33 ∧ 9 = 3) ∨ (1 = 33 ∧ 9 = 9) ∨ (1 = 33 ∧ 9 = 10) ∨ (1 = 33 ∧ 9 = 11)) from by omega))
  have t_24 := XI_c1 mσ1 (id := 33) (k := 9) (lim_C0_9 (Or.inr (Or.inr rfl)))
  have z_25 : (0 : Int32).toInt = 0 := rfl
  exact U13 (0 : Int32) σ1 mσ1 fσ1 nσ1_1 nσ1_33 (by omega) (by omega) (by first | with_reducible assumption | with_reducible rfl | omega | assumption | rfl) (by omega)
