/-! the three courses, the rows of numbers, the tapes -/
noncomputable abbrev isC (c : Nat) : Prop := c = 1 ∨ c = 17 ∨ c = 33
noncomputable abbrev isN (n : Nat) : Prop := n = 9 ∨ n = 11 ∨ n = 13 ∨ n = 25 ∨ n = 27 ∨ n = 29 ∨ n = 41 ∨ n = 43 ∨ n = 45 ∨ n = 64
noncomputable abbrev isT (t : Nat) : Prop := t = 52 ∨ t = 54 ∨ t = 56 ∨ t = 58 ∨ t = 60 ∨ t = 62
noncomputable abbrev isMc (ci : Nat) : Prop := ci = 0 ∨ ci = 3 ∨ ci = 4 ∨ ci = 6 ∨ ci = 7 ∨ ci = 8 ∨ ci = 10
/-- how many a row of numbers keeps -/
noncomputable def nl (n : Nat) : Nat := (kd (n + 1)).2
theorem kdC_0 {c : Nat} (h : isC c) : kd (c) = (11, 0) := by rcases h with rfl | rfl | rfl <;> decide +kernel
theorem fxC_0 {c : Nat} (h : isC c) : c ∈ fixL := by rcases h with rfl | rfl | rfl <;> decide +kernel
theorem kdC_1 {c : Nat} (h : isC c) : kd (c + 1) = (4, 6) := by rcases h with rfl | rfl | rfl <;> decide +kernel
theorem fxC_1 {c : Nat} (h : isC c) : c + 1 ∈ fixL := by rcases h with rfl | rfl | rfl <;> decide +kernel
theorem kdC_2 {c : Nat} (h : isC c) : kd (c + 2) = (0, 6) := by rcases h with rfl | rfl | rfl <;> decide +kernel
theorem fxC_2 {c : Nat} (h : isC c) : c + 2 ∈ fixL := by rcases h with rfl | rfl | rfl <;> decide +kernel
theorem kdC_3 {c : Nat} (h : isC c) : kd (c + 3) = (0, 6) := by rcases h with rfl | rfl | rfl <;> decide +kernel
theorem fxC_3 {c : Nat} (h : isC c) : c + 3 ∈ fixL := by rcases h with rfl | rfl | rfl <;> decide +kernel
theorem kdC_4 {c : Nat} (h : isC c) : kd (c + 4) = (0, 6) := by rcases h with rfl | rfl | rfl <;> decide +kernel
theorem fxC_4 {c : Nat} (h : isC c) : c + 4 ∈ fixL := by rcases h with rfl | rfl | rfl <;> decide +kernel
theorem kdC_5 {c : Nat} (h : isC c) : kd (c + 5) = (0, 6) := by rcases h with rfl | rfl | rfl <;> decide +kernel
theorem fxC_5 {c : Nat} (h : isC c) : c + 5 ∈ fixL := by rcases h with rfl | rfl | rfl <;> decide +kernel
theorem kdC_6 {c : Nat} (h : isC c) : kd (c + 6) = (0, 6) := by rcases h with rfl | rfl | rfl <;> decide +kernel
theorem fxC_6 {c : Nat} (h : isC c) : c + 6 ∈ fixL := by rcases h with rfl | rfl | rfl <;> decide +kernel
theorem kdC_7 {c : Nat} (h : isC c) : kd (c + 7) = (0, 24) := by rcases h with rfl | rfl | rfl <;> decide +kernel
theorem fxC_7 {c : Nat} (h : isC c) : c + 7 ∈ fixL := by rcases h with rfl | rfl | rfl <;> decide +kernel
theorem kdC_8 {c : Nat} (h : isC c) : kd (c + 8) = (15, 0) := by rcases h with rfl | rfl | rfl <;> decide +kernel
theorem fxC_8 {c : Nat} (h : isC c) : c + 8 ∈ fixL := by rcases h with rfl | rfl | rfl <;> decide +kernel
theorem kdC_9 {c : Nat} (h : isC c) : kd (c + 9) = (0, 18) := by rcases h with rfl | rfl | rfl <;> decide +kernel
theorem fxC_9 {c : Nat} (h : isC c) : c + 9 ∈ fixL := by rcases h with rfl | rfl | rfl <;> decide +kernel
theorem kdC_10 {c : Nat} (h : isC c) : kd (c + 10) = (15, 0) := by rcases h with rfl | rfl | rfl <;> decide +kernel
theorem fxC_10 {c : Nat} (h : isC c) : c + 10 ∈ fixL := by rcases h with rfl | rfl | rfl <;> decide +kernel
theorem kdC_11 {c : Nat} (h : isC c) : kd (c + 11) = (0, 10) := by rcases h with rfl | rfl | rfl <;> decide +kernel
theorem fxC_11 {c : Nat} (h : isC c) : c + 11 ∈ fixL := by rcases h with rfl | rfl | rfl <;> decide +kernel
theorem kdC_12 {c : Nat} (h : isC c) : kd (c + 12) = (15, 0) := by rcases h with rfl | rfl | rfl <;> decide +kernel
theorem fxC_12 {c : Nat} (h : isC c) : c + 12 ∈ fixL := by rcases h with rfl | rfl | rfl <;> decide +kernel
theorem kdC_13 {c : Nat} (h : isC c) : kd (c + 13) = (0, 8) := by rcases h with rfl | rfl | rfl <;> decide +kernel
theorem fxC_13 {c : Nat} (h : isC c) : c + 13 ∈ fixL := by rcases h with rfl | rfl | rfl <;> decide +kernel
theorem kdC_14 {c : Nat} (h : isC c) : kd (c + 14) = (0, 6) := by rcases h with rfl | rfl | rfl <;> decide +kernel
theorem fxC_14 {c : Nat} (h : isC c) : c + 14 ∈ fixL := by rcases h with rfl | rfl | rfl <;> decide +kernel
theorem kdC_15 {c : Nat} (h : isC c) : kd (c + 15) = (0, 6) := by rcases h with rfl | rfl | rfl <;> decide +kernel
theorem fxC_15 {c : Nat} (h : isC c) : c + 15 ∈ fixL := by rcases h with rfl | rfl | rfl <;> decide +kernel
theorem isN_C8 {c : Nat} (h : isC c) : isN (c + 8) := by rcases h with rfl | rfl | rfl <;> decide
theorem isN_C10 {c : Nat} (h : isC c) : isN (c + 10) := by rcases h with rfl | rfl | rfl <;> decide
theorem isN_C12 {c : Nat} (h : isC c) : isN (c + 12) := by rcases h with rfl | rfl | rfl <;> decide
theorem kdN_0 {n : Nat} (h : isN n) : kd n = (15, 0) := by rcases h with rfl | rfl | rfl | rfl | rfl | rfl | rfl | rfl | rfl | rfl <;> decide +kernel
theorem kdN_1 {n : Nat} (h : isN n) : kd (n + 1) = (0, nl n) := by rcases h with rfl | rfl | rfl | rfl | rfl | rfl | rfl | rfl | rfl | rfl <;> decide +kernel
theorem fxN_0 {n : Nat} (h : isN n) : n ∈ fixL := by rcases h with rfl | rfl | rfl | rfl | rfl | rfl | rfl | rfl | rfl | rfl <;> decide +kernel
theorem fxN_1 {n : Nat} (h : isN n) : n + 1 ∈ fixL := by rcases h with rfl | rfl | rfl | rfl | rfl | rfl | rfl | rfl | rfl | rfl <;> decide +kernel
theorem kdT_0 {t : Nat} (h : isT t) : kd t = (19, 0) := by rcases h with rfl | rfl | rfl | rfl | rfl | rfl <;> decide +kernel
theorem kdT_1 {t : Nat} (h : isT t) : kd (t + 1) = (3, 60) := by rcases h with rfl | rfl | rfl | rfl | rfl | rfl <;> decide +kernel
theorem fxT_0 {t : Nat} (h : isT t) : t ∈ fixL := by rcases h with rfl | rfl | rfl | rfl | rfl | rfl <;> decide +kernel
theorem fxT_1 {t : Nat} (h : isT t) : t + 1 ∈ fixL := by rcases h with rfl | rfl | rfl | rfl | rfl | rfl <;> decide +kernel
theorem isT_of {i : Int32} (h : vp_in i 6) : isT (52 + 2 * i.toNatClampNeg) := by
  have hlt : i.toNatClampNeg < 6 := Nat.not_le.mp fun q => h (Or.inr q)
  generalize i.toNatClampNeg = j at hlt ⊢
  unfold isT
  omega
/-! the fields -/
theorem kdF_lo : ∀ f, f < 175 → kd f = (12, 0) → f = 69 := by decide +kernel
theorem kdF {f : Nat} (h : kd f = (12, 0)) : f = 69 ∨ ∃ k, k < 200 ∧ f = 1000 + 5 * k := by
  by_cases h1 : f < 175
  · exact Or.inl (kdF_lo f h1 h)
  · by_cases h2 : f < 1000
    · simp [kd, h1, h2] at h
    · by_cases h3 : f < 2000
      · simp only [kd, h1, h2, h3, if_true, if_false, fkd] at h
        refine Or.inr ⟨(f - 1000) / 5, by omega, ?_⟩
        have : (f - 1000) % 5 = 0 := by
          by_cases e : (f - 1000) % 5 = 0
          · exact e
          · rw [if_neg e] at h
            split at h <;> simp at h
        omega
      · simp only [kd, h1, h2, h3, if_false] at h
        split at h
        · next q =>
          have e : f % 16 = 2 := by simp at h; omega
          rw [e] at q
          exact absurd q (by decide)
        · simp at h
theorem kdF_1 {f : Nat} (h : kd f = (12, 0)) : kd (f + 1) = (0, 100) := by
  rcases kdF h with rfl | ⟨k, hk, rfl⟩
  · decide +kernel
  · have h1 : ¬ 1000 + 5 * k + 1 < 175 := by omega
    have h2 : ¬ 1000 + 5 * k + 1 < 1000 := by omega
    have h3 : 1000 + 5 * k + 1 < 2000 := by omega
    have h4 : (1000 + 5 * k + 1 - 1000) % 5 = 1 := by omega
    simp only [kd, h1, h2, h3, if_true, if_false, h4]
    rfl
theorem kdF_2 {f : Nat} (h : kd f = (12, 0)) : kd (f + 2) = (0, 10) := by
  rcases kdF h with rfl | ⟨k, hk, rfl⟩
  · decide +kernel
  · have h1 : ¬ 1000 + 5 * k + 2 < 175 := by omega
    have h2 : ¬ 1000 + 5 * k + 2 < 1000 := by omega
    have h3 : 1000 + 5 * k + 2 < 2000 := by omega
    have h4 : (1000 + 5 * k + 2 - 1000) % 5 = 2 := by omega
    simp only [kd, h1, h2, h3, if_true, if_false, h4]
    rfl
theorem kdF_3 {f : Nat} (h : kd f = (12, 0)) : kd (f + 3) = (0, 10) := by
  rcases kdF h with rfl | ⟨k, hk, rfl⟩
  · decide +kernel
  · have h1 : ¬ 1000 + 5 * k + 3 < 175 := by omega
    have h2 : ¬ 1000 + 5 * k + 3 < 1000 := by omega
    have h3 : 1000 + 5 * k + 3 < 2000 := by omega
    have h4 : (1000 + 5 * k + 3 - 1000) % 5 = 3 := by omega
    simp only [kd, h1, h2, h3, if_true, if_false, h4]
    rfl
theorem kdF_4 {f : Nat} (h : kd f = (12, 0)) : kd (f + 4) = (0, 10) := by
  rcases kdF h with rfl | ⟨k, hk, rfl⟩
  · decide +kernel
  · have h1 : ¬ 1000 + 5 * k + 4 < 175 := by omega
    have h2 : ¬ 1000 + 5 * k + 4 < 1000 := by omega
    have h3 : 1000 + 5 * k + 4 < 2000 := by omega
    have h4 : (1000 + 5 * k + 4 - 1000) % 5 = 4 := by omega
    simp only [kd, h1, h2, h3, if_true, if_false, h4]
    rfl
section Rules2
variable {M : Mx} {cc : ByteArray} {ret : Option FieldType} {own : String} {Ts : List Cond} {rm : Room} {mc ms : Nat} {Qc : Array Value → State → Outcome → State → Prop} {pc : Nat} {lv lv' : List (Nat × Value)} {st : List Value} {σ : Sg} {kn : Nat × Nat}
theorem lvF_1 (C : Cx M cc ret own Ts rm mc ms Qc) {f : Nat} (hf : kd f = (12, 0)) (hl : f ∈ ids (mV M)) : f + 1 ∈ ids (mV M) := by
  obtain ⟨p, l, e, R, s, m, args, below, meth, c, V, nL, Q⟩ := M
  have h := C.2.2.2.2.2.2.2.2.2.2.1 f hl hf
  exact h.1
theorem lvF_2 (C : Cx M cc ret own Ts rm mc ms Qc) {f : Nat} (hf : kd f = (12, 0)) (hl : f ∈ ids (mV M)) : f + 2 ∈ ids (mV M) := by
  obtain ⟨p, l, e, R, s, m, args, below, meth, c, V, nL, Q⟩ := M
  have h := C.2.2.2.2.2.2.2.2.2.2.1 f hl hf
  exact h.2.1
theorem lvF_3 (C : Cx M cc ret own Ts rm mc ms Qc) {f : Nat} (hf : kd f = (12, 0)) (hl : f ∈ ids (mV M)) : f + 3 ∈ ids (mV M) := by
  obtain ⟨p, l, e, R, s, m, args, below, meth, c, V, nL, Q⟩ := M
  have h := C.2.2.2.2.2.2.2.2.2.2.1 f hl hf
  exact h.2.2.1
theorem lvF_4 (C : Cx M cc ret own Ts rm mc ms Qc) {f : Nat} (hf : kd f = (12, 0)) (hl : f ∈ ids (mV M)) : f + 4 ∈ ids (mV M) := by
  obtain ⟨p, l, e, R, s, m, args, below, meth, c, V, nL, Q⟩ := M
  have h := C.2.2.2.2.2.2.2.2.2.2.1 f hl hf
  exact h.2.2.2
theorem mcs_of {ci : Nat} (h : isMc ci) : ci ∈ mcs := by rcases h with rfl | rfl | rfl | rfl | rfl | rfl | rfl <;> decide
/-- the kinds under the first have its three numbers, and no other -/
theorem mcT {ci : Nat} (h : isMc ci) : ∃ (Cn : String) (T : u_T), vwCl[ci]? = some (Cn, T, 3) ∧ mnm ci = Cn ∧ (∀ k, k < 3 → T k = TX4 k) ∧ tplT.getD ci [] = [0, 0, 0] := by
  rcases h with rfl | rfl | rfl | rfl | rfl | rfl | rfl
  all_goals exact ⟨_, _, rfl, rfl, by decide +kernel, rfl⟩
theorem P_getM (C : Cx M cc ret own Ts rm mc ms Qc) {idx cj ci k n id : Nat} {rn : String} (hf : FA own Ts idx cj k rn) (hj : isMc cj) (hm : isMc ci) (hk : kd id = (10 + ci, n)) (hi : id ∈ ids (mV M)) (hd : decode cc pc = .ok (.getfield idx, 3)) (h : PS M (pc + 3) lv (.int (gi σ id k) :: st) σ kn) : PS M pc lv (.ref id :: st) σ kn := by
  obtain ⟨p, l, e, R, s, m, args, below, meth, c, V, nL, Q⟩ := M
  intro ls H locs hl hG hS
  obtain ⟨q0, hq⟩ := cell_at (V := V) (σ := σ) hi
  rw [ct_o hk] at hq
  obtain ⟨Cn, T, hcl, -, hT, htp⟩ := mcT hm
  obtain ⟨Cj, Tj, hclj, -, hTj, -⟩ := mcT hj
  unfold FA at hf
  rw [hclj] at hf
  obtain ⟨f1, f2, f3, f4⟩ := hf
  have hts := C.2.2.2.2.1
  have hK := C.2.2.2.2.2.2.2.1
  obtain ⟨r, h1, cell, q1, q2, q3, q4⟩ := hG.1 q0 _ hq
  have hr : r = (Cn, T, 3) := Option.some.inj (h1.symm.trans hcl)
  subst hr
  obtain ⟨hSj, hfc, kC, hkC, hkind⟩ := hK.1 cj _ hclj
  obtain ⟨hSi, -⟩ := hK.1 ci _ hcl
  have e1 : T k = Tj k := (hT k f1).trans (hTj k f1).symm
  obtain ⟨cf, kf, fi, f, hi1, hsl⟩ := hSi k f1
  have hi1 : s.fieldFound? (T k).1 (T k).2.1 (T k).2.2.1 = some (cf, kf, fi, f) := hi1
  rw [e1] at hi1
  have hsame : s.fieldFound? rn (Tj k).2.1 (Tj k).2.2.1 = some (cf, kf, fi, f) := by
    rcases f4 with f4 | f4
    · rw [f4]; exact hi1
    · exact u_same (hts _ f4) _ hi1
  refine W.getf C.1 C.2.1 C.2.2.2.1 (hts _ f3) hsame (u_facts hfc hkC (u_lays hts f2 f1) hi1).1 q1 (by rw [q3]; exact fun h => by cases h) (v := .int (gi σ id k)) ?_ rfl rfl hd (h ls H locs hl hG hS)
  rw [hsl, q4 k f1]
  have hc0 : tp ci k = some 0 := by
    unfold tp; rw [htp]
    match k, f1 with
    | 0, _ => rfl
    | 1, _ => rfl
    | 2, _ => rfl
  simp only [vp_V, List.getD_eq_getElem?_getD, flds_at hc0]
  rfl
/-- a mower may stand in a row of mowers -/
theorem any_of (C : Cx M cc ret own Ts rm mc ms Qc) : True := trivial
theorem sub_one (x : Int32) : x + Int32.ofInt (-1) = x - 1 := by rw [Int32.sub_eq_add_neg]; rfl
noncomputable def jmax (x y : Int32) : Int32 := if x < y then y else x
noncomputable def jmin (x y : Int32) : Int32 := if y < x then y else x
end Rules2
