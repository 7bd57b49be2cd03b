/-! the class's bounds: what each place of each cell may hold -/
noncomputable def fo (id : Nat) : Option Nat := if id < 69 then none else if id < 74 then some (id - 69) else if id < 1000 then none else if id < 2000 then some ((id - 1000) % 5) else none
noncomputable def limC (o k : Nat) : Option (Int × Int) :=
  if o = 0 then (if k = 1 then some (0, 6) else if k = 3 then some (0, 6) else if k = 9 then some (0, 20000) else none)
  else if o = 2 then some (0, 5)
  else if o = 8 then (if k = 1 then some (0, 18) else none)
  else if o = 10 then (if k = 1 then some (0, 10) else none)
  else if o = 12 then (if k = 1 then some (0, 8) else none)
  else if o = 9 then (if k % 3 = 0 then some (0, 5) else none)
  else if o = 13 then some (0, 5)
  else none
noncomputable def limF (o k : Nat) : Option (Int × Int) :=
  if o = 0 then (if k = 4 then some (0, 100) else if k = 8 then some (0, 10) else if k = 10 then some (0, 100) else if k = 11 then some (0, 100) else none)
  else if o = 1 then some (-3, 1799)
  else if o = 4 then some (0, 100)
  else none
noncomputable def limL (id k : Nat) : Option (Int × Int) :=
  if id = 0 then (if k = 3 then some (0, 1) else if k = 5 then some (0, 6) else if k = 7 then some (0, 100) else none)
  else if id < 49 then limC ((id - 1) % 16) k
  else if id < 52 then none
  else if id < 64 then (if id % 2 = 0 then (if k = 1 then some (-1, 4) else if k = 2 then some (0, 60) else none) else none)
  else if id = 64 then (if k = 1 then some (0, 1000) else none)
  else if id = 66 then some (0, 5)
  else none
noncomputable def lim (id k : Nat) : Option (Int × Int) :=
  if id < 69 then limL id k else match fo id with
  | some o => limF o k
  | none => if 2000 ≤ id then (if k = 0 then some (0, 6) else if k = 1 then some (0, 5) else if k = 2 then some (0, 9) else none) else none
/-- a mower that lives -/
noncomputable def isMw (V : Vx) (μ : Nat) : Prop := ∃ ci : Nat, isMc ci ∧ kd μ = (10 + ci, 0) ∧ μ ∈ ids V
noncomputable def XI (V : Vx) (σ : Sg) : Prop := (∀ id k lo hi, lim id k = some (lo, hi) → lo ≤ (gi σ id k).toInt ∧ (gi σ id k).toInt ≤ hi) ∧ (∀ c, isC c → (∃ f, gr σ c 10 = some f ∧ kd f = (12, 0) ∧ f ∈ ids V) ∧ ∀ k μ, gr σ (c + 1) k = some μ → isMw V μ) ∧ (∀ k f, gr σ 49 k = some f → kd f = (12, 0) ∧ f ∈ ids V) ∧ (∀ f, kd f = (12, 0) → gr σ f 9 = none ∨ gr σ f 9 = some 50)
theorem kdF_ge {f : Nat} (h : kd f = (12, 0)) : f = 69 ∨ (1000 ≤ f ∧ f < 2000 ∧ (f - 1000) % 5 = 0) := by
  rcases kdF h with h | ⟨k, hk, h⟩
  · exact Or.inl h
  · exact Or.inr ⟨by omega, by omega, by omega⟩
theorem mc_ge {ci : Nat} (h : isMc ci) : ci ≤ 10 ∧ ci ≠ 2 ∧ ci ≠ 1 ∧ ci ≠ 5 ∧ ci ≠ 9 := by rcases h with rfl | rfl | rfl | rfl | rfl | rfl | rfl <;> decide
theorem kdM_lo : ∀ f, f < 175 → ∀ ci, ci ∈ mcs → kd f ≠ (10 + ci, 0) := by decide +kernel
theorem kdM_ge {μ ci : Nat} (hm : isMc ci) (h : kd μ = (10 + ci, 0)) : 2000 ≤ μ := by
  by_cases h1 : μ < 175
  · exact absurd h (kdM_lo μ h1 ci (mcs_of hm))
  · by_cases h2 : μ < 1000
    · simp [kd, h1, h2] at h
      have := mc_ge hm; omega
    · by_cases h3 : μ < 2000
      · simp only [kd, h1, h2, h3, if_true, if_false, fkd] at h
        have := mc_ge hm
        split at h
        · exact absurd (congrArg Prod.fst h) (by show ¬ (12 : Nat) = 10 + ci; omega)
        · split at h
          · exact absurd (congrArg Prod.fst h) (by show ¬ (0 : Nat) = 10 + ci; omega)
          · exact absurd (congrArg Prod.fst h) (by show ¬ (0 : Nat) = 10 + ci; omega)
      · omega
theorem seg_ids {V : Vx} {M : Mx} (h : mV M = V) : ids (mV M) = ids V := by rw [h]
theorem lim_C0_1 {c : Nat} (hc : isC c) : lim c 1 = some (0, 6) := by rcases hc with rfl | rfl | rfl <;> rfl
theorem lim_C0_3 {c : Nat} (hc : isC c) : lim c 3 = some (0, 6) := by rcases hc with rfl | rfl | rfl <;> rfl
theorem lim_C0_9 {c : Nat} (hc : isC c) : lim c 9 = some (0, 20000) := by rcases hc with rfl | rfl | rfl <;> rfl
theorem lim_C0_n {c : Nat} (hc : isC c) (k : Nat) (hk : k ≠ 1 ∧ k ≠ 3 ∧ k ≠ 9) : lim c k = none := by rcases hc with rfl | rfl | rfl <;> simp [lim, limL, limC, hk.1, hk.2.1, hk.2.2]
theorem lim_C2 {c : Nat} (hc : isC c) (k : Nat) : lim (c + 2) k = some (0, 5) := by rcases hc with rfl | rfl | rfl <;> rfl
theorem lim_C13 {c : Nat} (hc : isC c) (k : Nat) : lim (c + 13) k = some (0, 5) := by rcases hc with rfl | rfl | rfl <;> rfl
theorem lim_C1 {c : Nat} (hc : isC c) (k : Nat) : lim (c + 1) k = none := by rcases hc with rfl | rfl | rfl <;> rfl
theorem lim_C3 {c : Nat} (hc : isC c) (k : Nat) : lim (c + 3) k = none := by rcases hc with rfl | rfl | rfl <;> rfl
theorem lim_C4 {c : Nat} (hc : isC c) (k : Nat) : lim (c + 4) k = none := by rcases hc with rfl | rfl | rfl <;> rfl
theorem lim_C5 {c : Nat} (hc : isC c) (k : Nat) : lim (c + 5) k = none := by rcases hc with rfl | rfl | rfl <;> rfl
theorem lim_C6 {c : Nat} (hc : isC c) (k : Nat) : lim (c + 6) k = none := by rcases hc with rfl | rfl | rfl <;> rfl
theorem lim_C7 {c : Nat} (hc : isC c) (k : Nat) : lim (c + 7) k = none := by rcases hc with rfl | rfl | rfl <;> rfl
theorem lim_C11 {c : Nat} (hc : isC c) (k : Nat) : lim (c + 11) k = none := by rcases hc with rfl | rfl | rfl <;> rfl
theorem lim_C14 {c : Nat} (hc : isC c) (k : Nat) : lim (c + 14) k = none := by rcases hc with rfl | rfl | rfl <;> rfl
theorem lim_C15 {c : Nat} (hc : isC c) (k : Nat) : lim (c + 15) k = none := by rcases hc with rfl | rfl | rfl <;> rfl
theorem lim_C8_1 {c : Nat} (hc : isC c) : lim (c + 8) 1 = some (0, 18) := by rcases hc with rfl | rfl | rfl <;> rfl
theorem lim_C10_1 {c : Nat} (hc : isC c) : lim (c + 10) 1 = some (0, 10) := by rcases hc with rfl | rfl | rfl <;> rfl
theorem lim_C12_1 {c : Nat} (hc : isC c) : lim (c + 12) 1 = some (0, 8) := by rcases hc with rfl | rfl | rfl <;> rfl
set_option maxRecDepth 100000 in
theorem lim_F {f : Nat} (h : kd f = (12, 0)) {o k : Nat} (ho : o < 5) : lim (f + o) k = limF o k := by
  rcases kdF_ge h with rfl | ⟨h1, h2, h3⟩
  · have a1 : ¬ 69 + o < 69 := by omega
    have a2 : 69 + o < 74 := by omega
    simp [lim, fo, a1, a2]
  · have a1 : ¬ f + o < 69 := by omega
    have a2 : ¬ f + o < 74 := by omega
    have a3 : ¬ f + o < 1000 := by omega
    have a4 : f + o < 2000 := by omega
    have a5 : (f + o - 1000) % 5 = o := by omega
    simp [lim, fo, a1, a2, a3, a4, a5]
theorem lim_F0_4 {f : Nat} (h : kd f = (12, 0)) : lim f 4 = some (0, 100) := by rw [show f = f + 0 from rfl, lim_F h (by decide)]; rfl
theorem lim_F0_8 {f : Nat} (h : kd f = (12, 0)) : lim f 8 = some (0, 10) := by rw [show f = f + 0 from rfl, lim_F h (by decide)]; rfl
theorem lim_F0_10 {f : Nat} (h : kd f = (12, 0)) : lim f 10 = some (0, 100) := by rw [show f = f + 0 from rfl, lim_F h (by decide)]; rfl
theorem lim_F0_11 {f : Nat} (h : kd f = (12, 0)) : lim f 11 = some (0, 100) := by rw [show f = f + 0 from rfl, lim_F h (by decide)]; rfl
theorem lim_F0_n {f : Nat} (h : kd f = (12, 0)) (k : Nat) (hk : k ≠ 4 ∧ k ≠ 8 ∧ k ≠ 10 ∧ k ≠ 11) : lim f k = none := by rw [show f = f + 0 from rfl, lim_F h (by decide)]; simp [limF, hk.1, hk.2.1, hk.2.2.1, hk.2.2.2]
theorem lim_F1 {f : Nat} (h : kd f = (12, 0)) (k : Nat) : lim (f + 1) k = some (-3, 1799) := by rw [lim_F h (by decide)]; rfl
theorem lim_F4 {f : Nat} (h : kd f = (12, 0)) (k : Nat) : lim (f + 4) k = some (0, 100) := by rw [lim_F h (by decide)]; rfl
theorem lim_F2 {f : Nat} (h : kd f = (12, 0)) (k : Nat) : lim (f + 2) k = none := by rw [lim_F h (by decide)]; rfl
theorem lim_F3 {f : Nat} (h : kd f = (12, 0)) (k : Nat) : lim (f + 3) k = none := by rw [lim_F h (by decide)]; rfl
theorem lim_M0_0 {μ ci : Nat} (hm : isMc ci) (h : kd μ = (10 + ci, 0)) : lim μ 0 = some (0, 6) := by
  have h0 := kdM_ge hm h
  have a1 : ¬ μ < 69 := by omega
  have a2 : ¬ μ < 74 := by omega
  have a3 : ¬ μ < 1000 := by omega
  have a4 : ¬ μ < 2000 := by omega
  simp [lim, fo, a1, a2, a3, a4]
theorem lim_M0_1 {μ ci : Nat} (hm : isMc ci) (h : kd μ = (10 + ci, 0)) : lim μ 1 = some (0, 5) := by
  have h0 := kdM_ge hm h
  have a1 : ¬ μ < 69 := by omega
  have a2 : ¬ μ < 74 := by omega
  have a3 : ¬ μ < 1000 := by omega
  have a4 : ¬ μ < 2000 := by omega
  simp [lim, fo, a1, a2, a3, a4]
theorem lim_M0_2 {μ ci : Nat} (hm : isMc ci) (h : kd μ = (10 + ci, 0)) : lim μ 2 = some (0, 9) := by
  have h0 := kdM_ge hm h
  have a1 : ¬ μ < 69 := by omega
  have a2 : ¬ μ < 74 := by omega
  have a3 : ¬ μ < 1000 := by omega
  have a4 : ¬ μ < 2000 := by omega
  simp [lim, fo, a1, a2, a3, a4]
theorem lim_T0_1 {t : Nat} (ht : isT t) : lim t 1 = some (-1, 4) := by rcases ht with rfl | rfl | rfl | rfl | rfl | rfl <;> rfl
theorem lim_T0_2 {t : Nat} (ht : isT t) : lim t 2 = some (0, 60) := by rcases ht with rfl | rfl | rfl | rfl | rfl | rfl <;> rfl
/-- the most of a row of numbers -/
noncomputable def capI (n : Nat) : Int := if n = 64 then 1000 else if n % 16 = 9 then 18 else if n % 16 = 11 then 10 else 8
noncomputable def seenN (n : Nat) : Prop := n = 9 ∨ n = 25 ∨ n = 41
theorem lim_N {n : Nat} (hn : isN n) : lim n 1 = some (0, capI n) := by rcases hn with rfl | rfl | rfl | rfl | rfl | rfl | rfl | rfl | rfl | rfl <;> rfl
theorem lim_Nn {n : Nat} (hn : isN n) (k : Nat) (hk : k ≠ 1) : lim n k = none := by rcases hn with rfl | rfl | rfl | rfl | rfl | rfl | rfl | rfl | rfl | rfl <;> simp [lim, limL, limC, hk]
theorem lim_Nr {n : Nat} (hn : isN n) (k : Nat) {lo hi : Int} (h : lim (n + 1) k = some (lo, hi)) : lo = 0 ∧ hi = 5 ∧ (seenN n ∧ k % 3 = 0 ∨ n % 16 = 13) := by
  unfold seenN
  rcases hn with rfl | rfl | rfl | rfl | rfl | rfl | rfl | rfl | rfl | rfl <;> simp [lim, limL, limC, fo] at h ⊢ <;> omega
theorem cap_nl {n : Nat} (hn : isN n) : n = 64 ∨ capI n = (nl n : Int) := by rcases hn with rfl | rfl | rfl | rfl | rfl | rfl | rfl | rfl | rfl | rfl <;> decide
theorem nl_le {n : Nat} (hn : isN n) : (nl n : Int) ≤ capI n ∧ capI n ≤ 1000 ∧ 8 ≤ (nl n : Int) ∧ (nl n : Int) ≤ 20 := by rcases hn with rfl | rfl | rfl | rfl | rfl | rfl | rfl | rfl | rfl | rfl <;> decide
theorem XI_c1 {V : Vx} {σ : Sg} (x : XI V σ) {id k : Nat} {lo hi : Int} (h : lim id k = some (lo, hi)) : lo ≤ (gi σ id k).toInt ∧ (gi σ id k).toInt ≤ hi := x.1 id k lo hi h
theorem XIs {V : Vx} {σ : Sg} {a k : Nat} {v : Int32} (x : XI V σ) (h : ∀ lo hi, lim a k = some (lo, hi) → lo ≤ v.toInt ∧ v.toInt ≤ hi) : XI V (si σ a k v) := by
  refine ⟨fun id j lo hi hl => ?_, x.2⟩
  by_cases e : id = a ∧ j = k
  · obtain ⟨rfl, rfl⟩ := e
    rw [gi_si_eq]
    exact h lo hi hl
  · rw [gi_si_ne (by by_cases hb : id = a
                     · exact Or.inr (fun hj => e ⟨hb, hj⟩)
                     · exact Or.inl hb)]
    exact x.1 id j lo hi hl
theorem XIs_n {V : Vx} {σ : Sg} {a k : Nat} {v : Int32} (x : XI V σ) (h : lim a k = none) : XI V (si σ a k v) := XIs x (fun lo hi q => by rw [h] at q; cases q)
theorem XIs_b {V : Vx} {σ : Sg} {a k : Nat} {v : Int32} {lo hi : Int} (x : XI V σ) (h : lim a k = some (lo, hi)) (h1 : lo ≤ v.toInt) (h2 : v.toInt ≤ hi) : XI V (si σ a k v) := XIs x (fun lo' hi' q => by rw [h] at q; cases q; exact ⟨h1, h2⟩)
theorem XIs_Nr {V : Vx} {σ : Sg} {n k : Nat} {v : Int32} (x : XI V σ) (hn : isN n) (h : seenN n ∧ k % 3 = 0 ∨ n % 16 = 13 → 0 ≤ v.toInt ∧ v.toInt ≤ 5) : XI V (si σ (n + 1) k v) := XIs x (fun lo hi q => by
  obtain ⟨rfl, rfl, z⟩ := lim_Nr hn k q
  exact h z)
theorem XIs_l {V : Vx} {σ : Sg} {a k : Nat} {v : Int64} (x : XI V σ) : XI V (sl σ a k v) := x
theorem XIs_la {V : Vx} {σ : Sg} {a : Nat} {v : Nat → Int64} (x : XI V σ) : XI V (sla σ a v) := x
theorem gr_sr {σ : Sg} {a k b j : Nat} {v : Option Nat} : gr (sr σ a k v) b j = if b = a ∧ j = k then v else gr σ b j := by
  by_cases e : b = a
  · subst e
    by_cases e2 : j = k
    · subst e2; simp [gr, sr, sra, va_up]
    · simp [gr, sr, sra, va_up, e2]
  · simp [gr, sr, sra, va_up, e]
theorem XIs_r {V : Vx} {σ : Sg} {a k : Nat} {v : Option Nat} (x : XI V σ) (h1 : ∀ c, isC c → a = c → k = 10 → ∃ f, v = some f ∧ kd f = (12, 0) ∧ f ∈ ids V) (h2 : ∀ c, isC c → a = c + 1 → ∀ μ, v = some μ → isMw V μ) (h3 : a = 49 → ∀ f, v = some f → kd f = (12, 0) ∧ f ∈ ids V) (h4 : kd a = (12, 0) → k = 9 → v = none ∨ v = some 50) : XI V (sr σ a k v) := by
  refine ⟨x.1, fun c hc => ⟨?_, fun j μ q => ?_⟩, fun j f q => ?_, fun f hf => ?_⟩
  · rw [gr_sr]
    by_cases e : c = a ∧ 10 = k
    · rw [if_pos e]; exact h1 c hc e.1.symm e.2.symm
    · rw [if_neg e]; exact (x.2.1 c hc).1
  · rw [gr_sr] at q
    by_cases e : c + 1 = a ∧ j = k
    · rw [if_pos e] at q; exact h2 c hc e.1.symm μ q
    · rw [if_neg e] at q; exact (x.2.1 c hc).2 j μ q
  · rw [gr_sr] at q
    by_cases e : 49 = a ∧ j = k
    · rw [if_pos e] at q; exact h3 e.1.symm f q
    · rw [if_neg e] at q; exact x.2.2.1 j f q
  · rw [gr_sr]
    by_cases e : f = a ∧ 9 = k
    · rw [if_pos e]; exact h4 (e.1 ▸ hf) e.2.symm
    · rw [if_neg e]; exact x.2.2.2 f hf
theorem XIs_sia {V : Vx} {σ : Sg} {a : Nat} {g : Nat → Int32} (x : XI V σ) (h : ∀ k lo hi, lim a k = some (lo, hi) → lo ≤ (g k).toInt ∧ (g k).toInt ≤ hi) : XI V (sia σ a g) := by
  refine ⟨fun id j lo hi hl => ?_, x.2⟩
  show lo ≤ (va_up σ.1 a g id j).toInt ∧ (va_up σ.1 a g id j).toInt ≤ hi
  by_cases e : id = a
  · subst e; rw [va_up_self]; exact h j lo hi hl
  · rw [va_up_ne _ _ e]; exact x.1 id j lo hi hl
/-! what is left alone -/
noncomputable def FX (S : Nat → Prop) (F : Nat → Nat → Prop) (σ σ' : Sg) : Prop := (∀ id k, ¬ S id → ¬ F id k → gi σ' id k = gi σ id k) ∧ (∀ id k, ¬ S id → gl σ' id k = gl σ id k) ∧ (∀ id k, ¬ S id → ¬ F id k → gr σ' id k = gr σ id k)
theorem FX_rf {S : Nat → Prop} {F : Nat → Nat → Prop} {σ : Sg} : FX S F σ σ := ⟨fun _ _ _ _ => rfl, fun _ _ _ => rfl, fun _ _ _ _ => rfl⟩
theorem FX_i {S : Nat → Prop} {F : Nat → Nat → Prop} {σ σ' : Sg} (f : FX S F σ σ') {id k : Nat} (h1 : ¬ S id) (h2 : ¬ F id k) : gi σ' id k = gi σ id k := f.1 id k h1 h2
theorem FX_r {S : Nat → Prop} {F : Nat → Nat → Prop} {σ σ' : Sg} (f : FX S F σ σ') {id k : Nat} (h1 : ¬ S id) (h2 : ¬ F id k) : gr σ' id k = gr σ id k := f.2.2 id k h1 h2
theorem FX_nil {σ σ' : Sg} (f : FX (fun _ => False) (fun _ _ => False) σ σ') : σ = σ' := by
  obtain ⟨h1, h2, h3⟩ := f
  refine Prod.ext (funext fun a => funext fun k => (h1 a k (fun z => z) (fun z => z)).symm) (Prod.ext (funext fun a => funext fun k => (h2 a k (fun z => z)).symm) (funext fun a => funext fun k => (h3 a k (fun z => z) (fun z => z)).symm))
theorem FX_si {S : Nat → Prop} {F : Nat → Nat → Prop} {σ σ1 : Sg} {a k : Nat} {v : Int32} (f : FX S F σ σ1) (h : S a ∨ F a k) : FX S F σ (si σ1 a k v) := by
  refine ⟨fun id j h1 h2 => ?_, f.2.1, f.2.2⟩
  rw [← f.1 id j h1 h2]
  refine gi_si_ne ?_
  by_cases e : id = a
  · subst e
    refine Or.inr fun e2 => ?_
    subst e2
    exact h.elim h1 h2
  · exact Or.inl e
theorem FX_sia {S : Nat → Prop} {F : Nat → Nat → Prop} {σ σ1 : Sg} {a : Nat} {g : Nat → Int32} (f : FX S F σ σ1) (h : S a) : FX S F σ (sia σ1 a g) := by
  refine ⟨fun id j h1 h2 => ?_, f.2.1, f.2.2⟩
  rw [← f.1 id j h1 h2]
  have e : id ≠ a := fun e => h1 (e ▸ h)
  show va_up σ1.1 a g id j = σ1.1 id j
  rw [va_up_ne _ _ e]
theorem FX_sl {S : Nat → Prop} {F : Nat → Nat → Prop} {σ σ1 : Sg} {a k : Nat} {v : Int64} (f : FX S F σ σ1) (h : S a) : FX S F σ (sl σ1 a k v) := by
  refine ⟨f.1, fun id j h1 => ?_, f.2.2⟩
  rw [← f.2.1 id j h1]
  have e : id ≠ a := fun e => h1 (e ▸ h)
  show va_up σ1.2.1 a _ id j = σ1.2.1 id j
  rw [va_up_ne _ _ e]
theorem FX_sla {S : Nat → Prop} {F : Nat → Nat → Prop} {σ σ1 : Sg} {a : Nat} {g : Nat → Int64} (f : FX S F σ σ1) (h : S a) : FX S F σ (sla σ1 a g) := by
  refine ⟨f.1, fun id j h1 => ?_, f.2.2⟩
  rw [← f.2.1 id j h1]
  have e : id ≠ a := fun e => h1 (e ▸ h)
  show va_up σ1.2.1 a _ id j = σ1.2.1 id j
  rw [va_up_ne _ _ e]
theorem FX_sr {S : Nat → Prop} {F : Nat → Nat → Prop} {σ σ1 : Sg} {a k : Nat} {v : Option Nat} (f : FX S F σ σ1) (h : S a ∨ F a k) : FX S F σ (sr σ1 a k v) := by
  refine ⟨f.1, f.2.1, fun id j h1 h2 => ?_⟩
  rw [← f.2.2 id j h1 h2, gr_sr, if_neg]
  rintro ⟨rfl, rfl⟩
  exact h.elim h1 h2
theorem FX_tr {S S2 : Nat → Prop} {F F2 : Nat → Nat → Prop} {σ σ1 σ2 : Sg} (f : FX S F σ σ1) (g : FX S2 F2 σ1 σ2) (hS : ∀ x, S2 x → S x) (hF : ∀ x k, F2 x k → S x ∨ F x k) : FX S F σ σ2 := by
  refine ⟨fun id k h1 h2 => ?_, fun id k h1 => ?_, fun id k h1 h2 => ?_⟩
  · exact (g.1 id k (fun q => h1 (hS id q)) (fun q => (hF id k q).elim h1 h2)).trans (f.1 id k h1 h2)
  · exact (g.2.1 id k (fun q => h1 (hS id q))).trans (f.2.1 id k h1)
  · exact (g.2.2 id k (fun q => h1 (hS id q)) (fun q => (hF id k q).elim h1 h2)).trans (f.2.2 id k h1 h2)
/-- a row of mowers that may go: who stands in it is one of them, and they are there -/
noncomputable def NN (σ : Sg) (c : Nat) : Prop := (∀ p : Nat, (p : Int) < (gi σ c 3).toInt → (gi σ (c + 2) p).toInt < (gi σ c 1).toInt) ∧ (∀ m : Nat, (m : Int) < (gi σ c 1).toInt → gr σ (c + 1) m ≠ none)
theorem NN_fx {S : Nat → Prop} {F : Nat → Nat → Prop} {σ σ' : Sg} {c : Nat} (n : NN σ c) (f : FX S F σ σ') (h0 : ¬ S c) (h1 : ¬ S (c + 1)) (h2 : ¬ S (c + 2)) (g1 : ¬ F c 1) (g3 : ¬ F c 3) (g4 : ∀ k, ¬ F (c + 1) k) (g5 : ∀ k, ¬ F (c + 2) k) : NN σ' c := by
  unfold NN
  rw [f.1 c 3 h0 g3, f.1 c 1 h0 g1]
  refine ⟨fun p hp => ?_, fun m hm => ?_⟩
  · rw [f.1 (c + 2) p h2 (g5 p)]; exact n.1 p hp
  · rw [f.2.2 (c + 1) m h1 (g4 m)]; exact n.2 m hm
theorem NN_si {σ : Sg} {c a k : Nat} {v : Int32} (n : NN σ c) (h : a ≠ c + 2) (hk : a = c → k ≠ 1 ∧ k ≠ 3) : NN (si σ a k v) c := by
  have e1 : gi (si σ a k v) c 3 = gi σ c 3 := gi_si_ne (by by_cases e : c = a
                                                           · exact Or.inr fun q => (hk e.symm).2 q.symm
                                                           · exact Or.inl e)
  have e2 : gi (si σ a k v) c 1 = gi σ c 1 := gi_si_ne (by by_cases e : c = a
                                                           · exact Or.inr fun q => (hk e.symm).1 q.symm
                                                           · exact Or.inl e)
  unfold NN
  rw [e1, e2]
  refine ⟨fun p hp => ?_, n.2⟩
  rw [gi_si_ne (Or.inl (fun e => h e.symm))]
  exact n.1 p hp
theorem NN_line {σ : Sg} {c k : Nat} {v : Int32} (n : NN σ c) (h : v.toInt < (gi σ c 1).toInt) : NN (si σ (c + 2) k v) c := by
  have e1 : gi (si σ (c + 2) k v) c 3 = gi σ c 3 := gi_si_ne (Or.inl (by omega))
  have e2 : gi (si σ (c + 2) k v) c 1 = gi σ c 1 := gi_si_ne (Or.inl (by omega))
  unfold NN
  rw [e1, e2]
  refine ⟨fun p hp => ?_, n.2⟩
  by_cases e : p = k
  · subst e; rw [gi_si_eq]; exact h
  · rw [gi_si_ne (Or.inr e)]; exact n.1 p hp
theorem NN_one {σ : Sg} {c : Nat} {v : Int32} (n : NN σ c) (hl : (gi σ (c + 2) 0).toInt < (gi σ c 1).toInt) (hv : v.toInt = 1) : NN (si σ c 3 v) c := by
  have e2 : gi (si σ c 3 v) c 1 = gi σ c 1 := gi_si_ne (Or.inr (by decide))
  unfold NN
  rw [gi_si_eq, e2, hv]
  refine ⟨fun p hp => ?_, n.2⟩
  have hp0 : p = 0 := by omega
  subst hp0
  rw [gi_si_ne (Or.inl (by omega))]
  exact hl
/-- the orders that are tried: numbers of those who are there -/
noncomputable def TRp (σ : Sg) (n m : Int) : Prop := ∀ i : Nat, (i : Int) < n → (gi σ 66 i).toInt < m
noncomputable abbrev TR (σ : Sg) (n : Int) : Prop := TRp σ n n
theorem TR_fx {S : Nat → Prop} {F : Nat → Nat → Prop} {σ σ' : Sg} {n : Int} (h : TR σ n) (f : FX S F σ σ') (h1 : ¬ S 66) (h2 : ∀ k, ¬ F 66 k) : TR σ' n := fun i hi => by rw [f.1 66 i h1 (h2 i)]; exact h i hi
theorem TR_si {σ : Sg} {n : Int} {k : Nat} {v : Int32} (h : TR σ n) (hv : v.toInt < n) : TR (si σ 66 k v) n := fun i hi => by
  by_cases e : i = k
  · subst e; rw [gi_si_eq]; exact hv
  · rw [gi_si_ne (Or.inr e)]; exact h i hi
theorem TR_ne {σ : Sg} {n : Int} {a k : Nat} {v : Int32} (h : TR σ n) (ha : a ≠ 66) : TR (si σ a k v) n := fun i hi => by
  rw [gi_si_ne (Or.inl (fun e => ha e.symm))]; exact h i hi
theorem TR_sia {σ : Sg} {n : Int} {a : Nat} {g : Nat → Int32} (h : TR σ n) (ha : a ≠ 66) : TR (sia σ a g) n := fun i hi => by
  show (va_up σ.1 a g 66 i).toInt < n
  rw [va_up_ne _ _ (fun e => ha e.symm)]; exact h i hi
theorem TRp_step {σ σ' : Sg} {x v : Int32} {n m : Int} (e : σ' = si σ 66 x.toNatClampNeg v) (h : TRp σ x.toInt m) (h0 : 0 ≤ x.toInt) (hv : v.toInt < m) (hn : n = x.toInt + 1) : TRp σ' n m := fun i hi => by
  have ec := cl_eq h0
  rw [e]
  by_cases e2 : i = x.toNatClampNeg
  · rw [e2, gi_si_eq]; exact hv
  · rw [gi_si_ne (Or.inr e2)]; exact h i (by omega)
theorem gr_si {σ : Sg} {a k b j : Nat} {v : Int32} : gr (si σ a k v) b j = gr σ b j := rfl
theorem gi_sr {σ : Sg} {a k b j : Nat} {v : Option Nat} : gi (sr σ a k v) b j = gi σ b j := rfl
theorem gi_sia {σ : Sg} {a b j : Nat} {g : Nat → Int32} : gi (sia σ a g) b j = if b = a then g j else gi σ b j := by
  show va_up σ.1 a g b j = _
  by_cases e : b = a
  · subst e; rw [va_up_self, if_pos rfl]
  · rw [va_up_ne _ _ e, if_neg e]; rfl
theorem cpy_in {α : Type} (f g : Nat → α) {n k : Nat} (h : k < n) : va_cpy f g 0 0 n k = f k := by
  unfold va_cpy
  rw [if_pos ⟨Nat.zero_le _, by omega⟩]
  congr 1
  omega
/-- a course's rows, as far as the k-th, are another's -/
noncomputable def CQ (σ σ' : Sg) (c a i : Nat) : Prop := (∀ k, k < i → gr σ' (c + 1) k = gr σ (a + 1) k) ∧ (∀ j, 2 ≤ j → j ≤ 6 → ∀ k, k < i → gi σ' (c + j) k = gi σ (a + j) k)
noncomputable def CPY (σ σ' : Sg) (c a : Nat) : Prop := (gi σ' c 1 = gi σ a 1 ∧ gi σ' c 3 = gi σ a 3 ∧ gi σ' c 9 = gi σ a 9 ∧ gi σ' c 11 = gi σ a 11 ∧ gr σ' c 10 = gr σ a 10) ∧ CQ σ σ' c a 6 ∧ ∀ k, k < 24 → gi σ' (c + 7) k = gi σ (a + 7) k
theorem XI_mow {V : Vx} {σ : Sg} (x : XI V σ) {c : Nat} (hc : isC c) {k : Nat} (h : gr σ (c + 1) k ≠ none) : ∃ μ ci : Nat, gr σ (c + 1) k = some μ ∧ isMc ci ∧ kd μ = (10 + ci, 0) ∧ μ ∈ ids V := by
  cases hr : gr σ (c + 1) k with
  | none => exact absurd hr h
  | some μ =>
    obtain ⟨ci, h1, h2, h3⟩ := (x.2.1 c hc).2 k μ hr
    exact ⟨μ, ci, rfl, h1, h2, h3⟩
theorem ofNat_nl {n : Nat} (hn : isN n) : (Int32.ofNat (nl n)).toInt = (nl n : Int) := by rcases hn with rfl | rfl | rfl | rfl | rfl | rfl | rfl | rfl | rfl | rfl <;> decide +kernel
theorem nI_slen {i : Nat} (hi : i < 8) : (nI (slen i)).toInt = (slen i : Int) ∧ 3 ≤ (slen i : Int) ∧ (slen i : Int) ≤ 6 := by
  have h : ∀ i, i < 8 → (nI (slen i)).toInt = (slen i : Int) ∧ 3 ≤ (slen i : Int) ∧ (slen i : Int) ≤ 6 := by decide +kernel
  exact h i hi
theorem sby_nar : ∀ i, i < 8 → ∀ k, k < slen i → narrow .char (.int ((((sby i k) &&& 255).toUInt32 % 65536).toInt32)) = .int ((((sby i k) &&& 255).toUInt32 % 65536).toInt32) ∧ (((sby i k) &&& 255).toUInt32 % 65536).toInt32 = sby i k ∧ narrow .char (.int (sby i k)) = .int (sby i k) ∧ 32 ≤ (sby i k).toInt ∧ (sby i k).toInt ≤ 127 := by decide +kernel
/-- the sign that stands next -/
noncomputable def sgn (σ : Sg) (f : Nat) : Int32 := if gi σ f 10 ≤ gi σ f 11 then -1 else gi σ 50 (gi σ f 11).toNatClampNeg
theorem sgn_lt {σ : Sg} {f : Nat} (h : 0 ≤ (sgn σ f).toInt) : (gi σ f 11).toInt < (gi σ f 10).toInt := by
  unfold sgn at h
  by_cases q : gi σ f 10 ≤ gi σ f 11
  · rw [if_pos q] at h; exact absurd h (by decide)
  · exact Int.not_le.mp fun z => q (Int32.le_iff_toInt_le.mpr z)
theorem sgn_a {σ : Sg} {f : Nat} (h : gi σ f 10 ≤ gi σ f 11) : sgn σ f = -1 := if_pos h
theorem sgn_b {σ : Sg} {f : Nat} (h : ¬ gi σ f 10 ≤ gi σ f 11) : sgn σ f = gi σ 50 (gi σ f 11).toNatClampNeg := if_neg h
theorem sgn_fx {S : Nat → Prop} {F : Nat → Nat → Prop} {σ σ' : Sg} {f : Nat} (h : FX S F σ σ') (h0 : ¬ S f) (h1 : ¬ F f 10) (h2 : ¬ F f 11) (h3 : ¬ S 50) (h4 : ∀ k, ¬ F 50 k) : sgn σ' f = sgn σ f := by
  unfold sgn
  rw [h.1 f 10 h0 h1, h.1 f 11 h0 h2, h.1 50 _ h3 (h4 _)]
/-- what may come to a row of numbers -/
noncomputable def okNum (n : Nat) (size v : Int32) : Prop := (seenN n ∧ size.toInt % 3 = 0 ∨ n % 16 = 13) → 0 ≤ v.toInt ∧ v.toInt ≤ 5
theorem okNum_64 {s v : Int32} : okNum 64 s v := fun h => by rcases h with ⟨h, -⟩ | h <;> simp [seenN] at h
theorem okNum_11 {s v : Int32} : okNum 11 s v := fun h => by rcases h with ⟨h, -⟩ | h <;> simp [seenN] at h
theorem okNum_b {n : Nat} {s v : Int32} (h1 : 0 ≤ v.toInt) (h2 : v.toInt ≤ 5) : okNum n s v := fun _ => ⟨h1, h2⟩
theorem okNum_9 {s v : Int32} (h : ¬ s.toInt % 3 = 0) : okNum 9 s v := fun q => by
  rcases q with ⟨-, q⟩ | q
  · exact absurd q h
  · exact absurd q (by decide)
theorem okNum_in {n k : Nat} {s v : Int32} (h : okNum n s v) (hs : (k : Int) = s.toInt) : seenN n ∧ k % 3 = 0 ∨ n % 16 = 13 → 0 ≤ v.toInt ∧ v.toInt ≤ 5 := fun q => h (q.elim (fun q => Or.inl ⟨q.1, by omega⟩) Or.inr)
theorem jmax_f (x y : Int32) : (jmax x y).toInt = if x.toInt < y.toInt then y.toInt else x.toInt := by
  unfold jmax
  by_cases h : x < y
  · rw [if_pos h, if_pos (Int32.lt_iff_toInt_lt.mp h)]
  · rw [if_neg h, if_neg (fun q => h (Int32.lt_iff_toInt_lt.mpr q))]
theorem jmin_f (x y : Int32) : (jmin x y).toInt = if y.toInt < x.toInt then y.toInt else x.toInt := by
  unfold jmin
  by_cases h : y < x
  · rw [if_pos h, if_pos (Int32.lt_iff_toInt_lt.mp h)]
  · rw [if_neg h, if_neg (fun q => h (Int32.lt_iff_toInt_lt.mpr q))]
theorem jmax_b (x y : Int32) : x.toInt ≤ (jmax x y).toInt ∧ y.toInt ≤ (jmax x y).toInt ∧ ((jmax x y).toInt = x.toInt ∨ (jmax x y).toInt = y.toInt) := by
  rw [jmax_f]; split <;> omega
theorem jmin_b (x y : Int32) : (jmin x y).toInt ≤ x.toInt ∧ (jmin x y).toInt ≤ y.toInt ∧ ((jmin x y).toInt = x.toInt ∨ (jmin x y).toInt = y.toInt) := by
  rw [jmin_f]; split <;> omega
