/-! what holds at the start -/
theorem st_spec {id k : Nat} {lo hi : Int} (h : lim id k = some (lo, hi)) : stI id k = 0 ∨ (stI id k = -1 ∧ lim id k = some (-1, 4)) := by
  by_cases e69 : id = 69
  · subst e69
    by_cases k0 : k = 0
    · subst k0; exact absurd (show (none : Option (Int × Int)) = some (lo, hi) from h) (by simp)
    by_cases k1 : k = 1
    · subst k1; exact absurd (show (none : Option (Int × Int)) = some (lo, hi) from h) (by simp)
    by_cases k2 : k = 2
    · subst k2; exact absurd (show (none : Option (Int × Int)) = some (lo, hi) from h) (by simp)
    left
    show stF k = 0
    unfold stF
    rw [if_neg k0, if_neg k1, if_neg k2]
  by_cases e74 : id = 74
  · subst e74; exact absurd (show (none : Option (Int × Int)) = some (lo, hi) from h) (by simp)
  by_cases e127 : id = 127
  · subst e127; exact absurd (show (none : Option (Int × Int)) = some (lo, hi) from h) (by simp)
  by_cases e171 : id = 171
  · subst e171; exact absurd (show (none : Option (Int × Int)) = some (lo, hi) from h) (by simp)
  by_cases ec : id = 1 ∨ id = 17 ∨ id = 33
  · by_cases k11 : k = 11
    · subst k11
      rcases ec with rfl | rfl | rfl <;> exact absurd (show (none : Option (Int × Int)) = some (lo, hi) from h) (by simp)
    · left
      have e : stC k = 0 := by unfold stC; rw [if_neg k11]
      rcases ec with rfl | rfl | rfl <;> exact e
  by_cases et : id = 52 ∨ id = 54 ∨ id = 56 ∨ id = 58 ∨ id = 60 ∨ id = 62
  · by_cases k1 : k = 1
    · subst k1
      right
      rcases et with rfl | rfl | rfl | rfl | rfl | rfl <;> exact ⟨rfl, rfl⟩
    · left
      have e : stT k = 0 := by unfold stT; rw [if_neg k1]
      rcases et with rfl | rfl | rfl | rfl | rfl | rfl <;> exact e
  left
  unfold stI
  rw [if_neg e69, if_neg e74, if_neg e127, if_neg e171, if_neg (by omega), if_neg (by omega), if_neg (by omega), if_neg (by omega), if_neg (by omega), if_neg (by omega), if_neg (by omega), if_neg (by omega), if_neg (by omega)]
  rfl
theorem st_lim0 {id k : Nat} {lo hi : Int} (h : lim id k = some (lo, hi)) : lo ≤ 0 ∧ 0 ≤ hi := by
  have hs : ∀ {a b : Int}, some (a, b) = some (lo, hi) → a ≤ 0 → 0 ≤ b → lo ≤ 0 ∧ 0 ≤ hi := fun q h1 h2 => by
    cases q; exact ⟨h1, h2⟩
  have hn : (none : Option (Int × Int)) = some (lo, hi) → lo ≤ 0 ∧ 0 ≤ hi := fun q => by cases q
  unfold lim at h
  split at h
  · unfold limL at h
    (repeat' split at h) <;> first | exact hn h | exact hs h (by decide) (by decide) | (unfold limC at h; (repeat' split at h) <;> first | exact hn h | exact hs h (by decide) (by decide))
  · split at h
    · unfold limF at h
      (repeat' split at h) <;> first | exact hn h | exact hs h (by decide) (by decide)
    · (repeat' split at h) <;> first | exact hn h | exact hs h (by decide) (by decide)
theorem st_hi {f : Nat} (h : 1000 ≤ f) : stR f = stRn := by
  unfold stR
  rw [if_neg (by omega), if_neg (by omega), if_neg (by omega)]
theorem st_XI {V : Vx} {Q : List Nat} : XI (stV V Q) st0 := by
  refine ⟨fun id k lo hi h => ?_, fun c hc => ⟨⟨69, ?_, kd_69, by rw [stV_fix]; decide⟩, fun k μ hμ => ?_⟩, fun k f hf => ?_, fun f hf => ?_⟩
  · show lo ≤ (stI id k).toInt ∧ (stI id k).toInt ≤ hi
    rcases st_spec h with e | ⟨e, e2⟩
    · rw [e]; exact st_lim0 h
    · rw [e]
      rw [e2] at h
      cases h
      decide
  · rcases hc with rfl | rfl | rfl <;> rfl
  · exfalso
    rcases hc with rfl | rfl | rfl
    · exact absurd (show (none : Option Nat) = some μ from hμ) (by simp)
    · exact absurd (show (none : Option Nat) = some μ from hμ) (by simp)
    · exact absurd (show (none : Option Nat) = some μ from hμ) (by simp)
  · exact absurd (show (none : Option Nat) = some f from hf) (by simp)
  · left
    rcases kdF_ge hf with rfl | ⟨h1, -, -⟩
    · rfl
    · show stR f 9 = none
      rw [st_hi h1]; rfl
theorem st_NN {c : Nat} (hc : c = 1 ∨ c = 17) : NN st0 c := by
  have e1 : (gi st0 c 1).toInt = 0 := by rcases hc with rfl | rfl <;> decide
  have e3 : (gi st0 c 3).toInt = 0 := by rcases hc with rfl | rfl <;> decide
  exact ⟨fun p hp => by rw [e3] at hp; omega, fun m hm => by rw [e1] at hm; omega⟩
theorem fixL_lt : ∀ id ∈ fixL, id < 175 := by decide +kernel
theorem st_FI {V : Vx} {Q : List Nat} : FI (stV V Q) st0 := fun k _ _ r _ hm => by
  rw [stV_fix] at hm
  have := fixL_lt _ hm
  omega
theorem st_bZ {n : Nat} {lo hi : Int} (h1 : lo ≤ 0) (h2 : 0 ≤ hi) : bnd stZ n lo hi := fun _ _ => ⟨h1, h2⟩
theorem st_MI0 : MI0 st0 := by unfold MI0; decide +kernel
theorem st_bL : bnd stL 19 0 127 := by unfold bnd; decide +kernel
theorem st_bS : bnd stS 6 (-1) 4 := by unfold bnd; decide +kernel
theorem st_MI1 : MI1 st0 :=
  ⟨st_bZ (by decide) (by decide), st_bZ (by decide) (by decide), st_bZ (by decide) (by decide), st_bZ (by decide) (by decide), st_bL, st_bZ (by decide) (by decide), st_bZ (by decide) (by decide), st_bZ (by decide) (by decide), st_bZ (by decide) (by decide), st_bZ (by decide) (by decide), st_bZ (by decide) (by decide), st_bZ (by decide) (by decide), st_bZ (by decide) (by decide), st_bZ (by decide) (by decide), st_bZ (by decide) (by decide), st_bS, st_bZ (by decide) (by decide)⟩
theorem st_11 : (gi st0 74 11).toInt = 0 := by decide
theorem st_12 : (gi st0 74 12).toInt = -1 := by decide
theorem st_50 : (gi st0 74 50).toInt = -1 := by decide
theorem st_FV : FV st0 := fun f _ h => by
  rw [st_11, st_12, st_50] at h
  exfalso
  omega
theorem st_IVM : IVM st0 := by
  refine ⟨⟨st_MI0, st_MI1, st_FV⟩, by rw [st_11, st_12]; decide, by rw [st_11, st_50]; decide, fun m hm => ?_, fun m hm => ?_, by decide, by decide⟩
  · have e : (gi st0 74 0).toInt = 0 := by decide
    rw [e] at hm; omega
  · have e : (gi st0 74 51).toInt = 0 := by decide
    rw [e] at hm; omega
theorem st_INV {V : Vx} {Q : List Nat} : INV (stV V Q) st0 := ⟨⟨st_XI, st_NN (Or.inl rfl), st_NN (Or.inr rfl), by decide, by decide, by decide, by decide, by decide, by decide, st_FI⟩, st_IVM⟩
theorem st_SX {V : Vx} {Q : List Nat} {U : State} (q : SX V U) : SX (stV V Q) U := by
  obtain ⟨q1, q2, q3, q4⟩ := q
  unfold SX
  refine ⟨vk_S_eq q1 (fun i hi => stV_hi (by omega)) (fun i hi => stV_hi (by omega)), fun i hi => ?_, q3, ?_⟩
  · rw [stV_hi (by omega)]; exact q2 i hi
  · rw [stV_hi (by decide)]; exact q4
theorem st_XC {V : Vx} {Q : List Nat} (q : XC V) : XC (stV V Q) := ⟨q.1, fun U hx => ⟨(q.2 U hx).1, st_SX (q.2 U hx).2⟩⟩
theorem st_wfd {V : Vx} {Q : List Nat} : wfd (stV V Q) := fun f hf hk => by
  rw [stV_fix] at hf ⊢
  exact (show ∀ f ∈ fixL, kd f = (12, 0) → f + 1 ∈ fixL ∧ f + 2 ∈ fixL ∧ f + 3 ∈ fixL ∧ f + 4 ∈ fixL by decide +kernel) f hf hk
theorem st_Cx {M : Mx} {cc : ByteArray} {ret : Option FieldType} {own : String} {Ts : List Cond} {rm : Room} {mc ms : Nat} {Qc : Array Value → State → Outcome → State → Prop} {Q : List Nat} (C : Cx M cc ret own Ts rm mc ms Qc) : Cx (mset M (stV (mV M) Q)) cc ret own Ts rm mc ms Qc := by
  obtain ⟨p, l, e, R, s, m, args, below, meth, c, V, nL, Qx⟩ := M
  obtain ⟨hx, hb, hml, hown, hts, hr, hlk, hK, hR, hQ, hw0, hX⟩ := C
  exact ⟨hx, hb, hml, hown, hts, hr, hlk, hK, hR, hQ, st_wfd, hX.1, st_XC hX.2⟩
/-- a constructor that asks for the private ones' links -/
theorem Z_ciK {M : Mx} {cc : ByteArray} {ret : Option FieldType} {own : String} {Ts : List Cond} {rm rc0 : Room} {mc ms : Nat} {Qc : Array Value → State → Outcome → State → Prop} {pc : Nat} {lv : List (Nat × Value)} {st : List Value} {ω : RWd} {kn : Nat × Nat} {Qk : RWd → Prop} {idx n b : Nat} {y : MethodName} {ws : List Cond} {As : List Value} (C : Cx M cc ret own Ts rm mc ms Qc) (hNW : mNW M) (k : KI own Ts rm idx y ws rc0 n) (hn : As.length = n) (hst : (st.map fun v => v.category).sum ≤ 8) (hd : decode cc pc = .ok (.invokespecial idx, 3)) (hf : kn.1 + rc0.cells ≤ rm.cells ∧ kn.2 + rc0.slots ≤ rm.slots) (hM : KrN (mL M) (mV M) y ws rc0 rc0.cells rc0.slots (.ref b :: As) ω (QRV (mV M) Qk)) (h : ∀ ω', Qk ω' → PR M (pc + 3) lv st ω' (kn.1 + rc0.cells, kn.2 + rc0.slots)) : PR M pc lv (As.reverse ++ .ref b :: st) ω kn := by
  obtain ⟨p, l, e, R, s, m, args, below, meth, c, V, nL, Q⟩ := M
  intro ls H locs hl hG hS
  obtain ⟨hx, hb, hml, hown, hts, hr, hlk, hK, rfl, rfl, hw, hX⟩ := C
  obtain ⟨bytes, maxL, ws', k1, k2, k3, k4, k5, k6, k7, k8⟩ := k
  have hst2 : 2 * (F0 m pc ls (As.reverse ++ .ref b :: st)).monitorRoom + (st.map fun v => v.category).sum ≤ 8 := by show 2 * 0 + _ ≤ 8; omega
  exact va_callv (va_runI (As := As) (b := b) ⟨hx, hb, hml, hown, hts⟩ hM (cwI n hts k1 k2 rfl rfl (hts _ k3) (hts _ k4) (hts _ k5) k6 k7 k8) ⟨GRRblindN, fun U hU hW => ⟨rfl, GRR_mk hU hG hK hw hX hS hW, NWU_w hW hNW⟩⟩ rfl hn hl.1 rfl hst2 hd hf) hS (fun _ _ h => h) (fun _ h => h) (fun u t H1 locs1 ht hvm hq hB hz hk hS1 => by subst ht; exact h u hq ls _ locs1 hl hB.1 hS1)
/-! at the start both states are alike -/
theorem st_RSC : RSC st0 := by
  unfold RSC
  decide +kernel
theorem st_TAP : TAP st0 := by
  intro t ht
  have h : ∀ t : Nat, t < 6 → gi st0 (52 + 2 * t) 1 = gi st0 171 t ∧ gi st0 (52 + 2 * t) 2 = gi st0 172 t ∧ (gi st0 172 t).toInt = 0 := by decide +kernel
  obtain ⟨h1, h2, h3⟩ := h t ht
  exact ⟨h1, h2, fun _ => h3, fun _ _ => rfl⟩
theorem st_REL2 : REL2 st0 := by
  have e1 : (gi st0 1 1).toInt = 0 := by decide
  have e17 : (gi st0 17 1).toInt = 0 := by decide
  exact ⟨⟨by decide, fun _ _ => rfl⟩, fun _ _ => rfl, fun _ _ => rfl, ⟨fun _ _ => rfl, fun _ _ _ => rfl⟩, ⟨fun _ _ => rfl, fun _ _ _ => rfl⟩, fun m hm => by omega, fun m hm => by omega⟩
theorem st_REL : REL st0 := ⟨st_RSC, st_TAP, st_REL2⟩
