/-! the state with more cells -/
noncomputable def vext (V : Vx) (L : List (Nat × Nat)) : Vx := (vD V, vC V, vA V, (fun id => match L.find? (fun x => x.1 == id) with
  | some x => x.2
  | none => va V id), vL V ++ L.map (fun x => x.1), vX V)
theorem vext_ids {V : Vx} {L : List (Nat × Nat)} : ids (vext V L) = ids V ++ L.map (fun x => x.1) := (List.append_assoc _ _ _).symm
theorem vext_old {V : Vx} {L : List (Nat × Nat)} {id : Nat} (h : id ∉ L.map (fun x => x.1)) : va (vext V L) id = va V id := by
  show (match L.find? (fun x => x.1 == id) with
    | some x => x.2
    | none => va V id) = _
  cases hf : L.find? (fun x => x.1 == id) with
  | none => rfl
  | some x =>
    have h1 := List.find?_some hf
    have h2 := List.mem_of_find?_eq_some hf
    have h3 : x.1 = id := by simpa using h1
    exact absurd (List.mem_map.mpr ⟨x, h2, h3⟩) h
theorem vext_new {V : Vx} {L : List (Nat × Nat)} {x : Nat × Nat} (hn : (L.map (fun x => x.1)).Nodup) (h : x ∈ L) : va (vext V L) x.1 = x.2 := by
  show (match L.find? (fun y => y.1 == x.1) with
    | some y => y.2
    | none => va V x.1) = _
  cases hf : L.find? (fun y => y.1 == x.1) with
  | none => exact absurd (List.find?_eq_none.mp hf x h) (by simp)
  | some y =>
    have h1 := List.find?_some hf
    have h2 := List.mem_of_find?_eq_some hf
    have h3 : y.1 = x.1 := by simpa using h1
    obtain ⟨i, hi⟩ := List.getElem?_of_mem h
    obtain ⟨j, hj⟩ := List.getElem?_of_mem h2
    have g1 : (L.map (fun x => x.1))[i]? = some x.1 := by rw [List.getElem?_map, hi]; rfl
    have g2 : (L.map (fun x => x.1))[j]? = some x.1 := by rw [List.getElem?_map, hj, ← h3]; rfl
    obtain ⟨l1, q1⟩ := List.getElem?_eq_some_iff.mp g1
    obtain ⟨l2, q2⟩ := List.getElem?_eq_some_iff.mp g2
    have h5 := List.pairwise_iff_getElem.mp hn
    have e : i = j := by
      rcases Nat.lt_trichotomy i j with q | q | q
      · exact absurd (q1.trans q2.symm) (h5 i j l1 l2 q)
      · exact q
      · exact absurd (q2.trans q1.symm) (h5 j i l2 l1 q)
    subst e
    rw [Option.some.inj (hi.symm.trans hj)]
theorem va_D_nd {A : Nat → Prop} {ws : va_W} (h : va_D A ws) : (ws.map (fun x => x.1)).Nodup := by
  refine List.pairwise_iff_getElem.mpr (fun i j hi hj hij e => ?_)
  rw [List.getElem_map, List.getElem_map] at e
  rw [List.length_map] at hi hj
  have := h.1 i j _ _ (List.getElem?_eq_getElem hi) (List.getElem?_eq_getElem hj) e
  omega
theorem va_D_of {A : Nat → Prop} {ws : va_W} (hn : (ws.map (fun x => x.1)).Nodup) (hA : ∀ x ∈ ws, A x.1) : va_D A ws := by
  refine ⟨fun i j p q hi hj e => ?_, fun k q hk => hA q (List.mem_of_getElem? hk)⟩
  obtain ⟨p1, p2⟩ := p
  obtain ⟨q1, q2⟩ := q
  have e : p1 = q1 := e
  subst e
  exact nodup_at hn hi hj
/-- what lies in a cell is as good as something else -/
noncomputable def EQV (e e' : va_E) : Prop := ∀ (D : va_G) (a : Nat) (H : Heap), va_at D vwCl (a, e) H → va_at D vwCl (a, e') H
theorem EQV_rf {e : va_E} : EQV e e := fun _ _ _ h => h
theorem EQV_of {e e' : va_E} (h : e = e') : EQV e e' := h ▸ EQV_rf
theorem EQV_refs {cA : ClassId} {n : Nat} {f g : Nat → Option Nat} (h : ∀ k, k < n → f k = g k) : EQV (.inl (cA, n, .inr (.inr (.inr (.inr f))))) (.inl (cA, n, .inr (.inr (.inr (.inr g))))) := fun D a H q => by
  show H[a]? = some (arrV cA n (fun j => va_rf (g j)))
  have e : arrV cA n (fun j => va_rf (g j)) = arrV cA n (fun j => va_rf (f j)) := by
    unfold arrV
    congr 2
    funext j
    show va_rf (g j.val) = va_rf (f j.val)
    rw [h j.val j.isLt]
  rw [e]
  exact q
theorem kd_cls (id : Nat) : id ∈ fixL ∨ (kd id = (12, 0) ∧ 1000 ≤ id) ∨ ((kd id).1 = 0 ∧ 1000 ≤ id) ∨ (∃ ci, ci ∈ mcs ∧ kd id = (10 + ci, 0)) ∨ kd id = (99, 0) := by
  by_cases h1 : id < 175
  · have h : ∀ i, i < 175 → i ∈ fixL ∨ kd i = (99, 0) := by decide +kernel
    rcases h id h1 with q | q
    · exact Or.inl q
    · exact Or.inr (Or.inr (Or.inr (Or.inr q)))
  · by_cases h2 : id < 1000
    · exact Or.inr (Or.inr (Or.inr (Or.inr (by simp [kd, h1, h2]))))
    · by_cases h3 : id < 2000
      · have e : kd id = fkd ((id - 1000) % 5) := by simp [kd, h1, h2, h3]
        rw [e]
        unfold fkd
        split
        · exact Or.inr (Or.inl ⟨rfl, by omega⟩)
        · split
          · exact Or.inr (Or.inr (Or.inl ⟨rfl, by omega⟩))
          · exact Or.inr (Or.inr (Or.inl ⟨rfl, by omega⟩))
      · have e : kd id = if mcs.contains (id % 16) then (10 + id % 16, 0) else (99, 0) := by simp only [kd, h1, h2, h3, if_false]
        by_cases h4 : mcs.contains (id % 16) = true
        · exact Or.inr (Or.inr (Or.inr (Or.inl ⟨id % 16, List.contains_iff_mem.mp h4, by rw [e, if_pos h4]⟩)))
        · exact Or.inr (Or.inr (Or.inr (Or.inr (by rw [e, if_neg h4]))))
theorem fix_o : ∀ id ∈ fixL, ∀ c ∈ tplT.getD ((kd id).1 - 10) [], 2 ≤ c → 10 ≤ (kd id).1 → id + (c - 2) ∈ fixL := by decide +kernel
theorem fix_4 : ∀ id ∈ fixL, (kd id).1 = 4 → isC (id - 1) ∧ 1 ≤ id := by decide +kernel
theorem fix_5 : ∀ id ∈ fixL, (kd id).1 = 5 → id = 49 := by decide +kernel
theorem fix_6 : ∀ id ∈ fixL, (kd id).1 = 6 → id = 51 ∧ (kd id).2 = 6 := by decide +kernel
theorem fix_11 : ∀ id ∈ fixL, (kd id).1 = 11 → isC id := by decide +kernel
theorem fix_12 : ∀ id ∈ fixL, (kd id).1 = 12 → id = 69 ∧ kd id = (12, 0) := by decide +kernel
theorem tp_1 : ∀ ci, ci < 13 → ∀ k, k < 80 → tp ci k = some 1 → (ci = 1 ∧ k = 10) ∨ (ci = 2 ∧ k = 9) := by decide +kernel
theorem tp_m : ∀ ci ∈ mcs, ∀ c ∈ tplT.getD ci [], c = 0 := by decide +kernel
theorem tp_f : ∀ c ∈ tplT.getD 2 [], 2 ≤ c → c = 3 ∨ c = 4 ∨ c = 5 ∨ c = 6 := by decide +kernel
theorem tp_len : ∀ ci, ci < 13 → (tplT.getD ci []).length < 80 := by decide +kernel
theorem fix_o13 : ∀ id ∈ fixL, 10 ≤ (kd id).1 → (kd id).1 - 10 < 13 := by decide +kernel
theorem mcs13 : ∀ ci ∈ mcs, ci < 13 := by decide +kernel
/-- the references of a cell that lives go to cells that live -/
theorem ref_in {V : Vx} {σ : Sg} (x : XI V σ) {id k μ : Nat} (hi : id ∈ ids V) (h : ((kd id).1 = 4 ∨ (kd id).1 = 5) ∨ (10 ≤ (kd id).1 ∧ tp ((kd id).1 - 10) k = some 1)) (hr : gr σ id k = some μ) : μ ∈ ids V := by
  have c4 : ∀ c, isC c → gr σ (c + 1) k = some μ → μ ∈ ids V := fun c hc hr => by
    obtain ⟨ci, -, -, q⟩ := (x.2.1 c hc).2 k μ hr
    exact q
  have cF : kd id = (12, 0) → k = 9 → μ ∈ ids V := fun hk h9 => by
    subst h9
    rcases x.2.2.2 id hk with q | q
    · rw [q] at hr; cases hr
    · rw [q] at hr
      obtain rfl : 50 = μ := Option.some.inj hr
      exact fxl (by decide +kernel)
  rcases kd_cls id with q | q | q | ⟨ci, q1, q2⟩ | q
  · rcases h with (h | h) | ⟨h1, h2⟩
    · obtain ⟨q1, q2⟩ := fix_4 id q h
      exact c4 (id - 1) q1 (by rw [show id - 1 + 1 = id from by omega]; exact hr)
    · rw [fix_5 id q h] at hr
      exact (x.2.2.1 k μ hr).2
    · have hk : k < (tplT.getD ((kd id).1 - 10) []).length := by
        unfold tp at h2
        exact (List.getElem?_eq_some_iff.mp h2).1
      have h13 := fix_o13 id q h1
      have hl := tp_len _ h13
      rcases tp_1 _ h13 k (by omega) h2 with ⟨e1, e2⟩ | ⟨e1, e2⟩
      · have hc := fix_11 id q (by omega)
        subst e2
        obtain ⟨f, f1, -, f3⟩ := (x.2.1 id hc).1
        rw [f1] at hr
        obtain rfl : f = μ := Option.some.inj hr
        exact f3
      · exact cF (fix_12 id q (by omega)).2 e2
  · rcases h with (h | h) | ⟨h1, h2⟩
    · rw [q.1] at h; cases h
    · rw [q.1] at h; cases h
    · rw [q.1] at h2
      have hk : k < (tplT.getD 2 []).length := by
        unfold tp at h2
        exact (List.getElem?_eq_some_iff.mp h2).1
      have hl := tp_len 2 (by decide +kernel)
      rcases tp_1 2 (by decide +kernel) k (by omega) h2 with ⟨e1, e2⟩ | ⟨e1, e2⟩
      · cases e1
      · exact cF q.1 e2
  · rcases h with (h | h) | ⟨h1, h2⟩ <;> omega
  · have := mcs13 ci q1
    rcases h with (h | h) | ⟨h1, h2⟩
    · rw [q2] at h; have h : 10 + ci = 4 := h; omega
    · rw [q2] at h; have h : 10 + ci = 5 := h; omega
    · rw [q2] at h2
      have h2 : tp (10 + ci - 10) k = some 1 := h2
      rw [show 10 + ci - 10 = ci from by omega] at h2
      unfold tp at h2
      have := tp_m ci q1 1 (List.mem_of_getElem? h2)
      omega
  · rw [q] at h
    rcases h with (h | h) | ⟨h1, h2⟩
    · cases h
    · cases h
    · cases h2
/-- the cells that belong to one that lives, live -/
theorem off_in {V : Vx} (hw : wfd V) {id k d : Nat} (hi : id ∈ ids V) (h1 : 10 ≤ (kd id).1) (h : tp ((kd id).1 - 10) k = some (d + 2)) : id + d ∈ ids V := by
  have hm : (d + 2) ∈ tplT.getD ((kd id).1 - 10) [] := by unfold tp at h; exact List.mem_of_getElem? h
  rcases kd_cls id with q | q | q | ⟨ci, q1, q2⟩ | q
  · have := fix_o id q (d + 2) hm (by omega) h1
    rw [show d + 2 - 2 = d from by omega] at this
    exact fxl this
  · rw [q.1] at hm
    obtain ⟨w1, w2, w3, w4⟩ := hw id hi q.1
    rcases tp_f (d + 2) hm (by omega) with e | e | e | e
    · obtain rfl : d = 1 := by omega
      exact w1
    · obtain rfl : d = 2 := by omega
      exact w2
    · obtain rfl : d = 3 := by omega
      exact w3
    · obtain rfl : d = 4 := by omega
      exact w4
  · omega
  · rw [q2] at hm
    have hm : (d + 2) ∈ tplT.getD (10 + ci - 10) [] := hm
    rw [show 10 + ci - 10 = ci from by omega] at hm
    have := tp_m ci q1 _ hm
    omega
  · rw [q] at hm; cases hm
theorem ct_ext {V V' : Vx} {σ σ' : Sg} (x : XI V σ) (hw : wfd V) (hC : vC V' = vC V) (hva : ∀ id ∈ ids V, va V' id = va V id) {id : Nat} (hi : id ∈ ids V) (e1 : σ'.1 id = σ.1 id) (e2 : σ'.2.1 id = σ.2.1 id) (e3 : σ'.2.2 id = σ.2.2 id) : EQV (ct V σ id) (ct V' σ' id) := by
  have hr : ∀ k, ((kd id).1 = 4 ∨ (kd id).1 = 5) ∨ (10 ≤ (kd id).1 ∧ tp ((kd id).1 - 10) k = some 1) → (σ.2.2 id k).map (va V) = (σ.2.2 id k).map (va V') := fun k hk => by
    cases hq : σ.2.2 id k with
    | none => rfl
    | some μ => show some (va V μ) = some (va V' μ); rw [hva μ (ref_in x hi hk hq)]
  unfold ct
  rw [e1, e2, e3]
  unfold cont
  rw [hC]
  by_cases h3 : (kd id).1 < 3
  · rw [if_pos h3, if_pos h3]; exact EQV_rf
  · rw [if_neg h3, if_neg h3]
    by_cases h4 : (kd id).1 = 3
    · rw [if_pos h4, if_pos h4]; exact EQV_rf
    · rw [if_neg h4, if_neg h4]
      by_cases h5 : (kd id).1 < 6
      · rw [if_pos h5, if_pos h5]
        exact EQV_refs (fun k _ => hr k (Or.inl (by omega)))
      · rw [if_neg h5, if_neg h5]
        by_cases h6 : (kd id).1 = 6
        · rw [if_pos h6, if_pos h6]
          refine EQV_refs (fun k hk => ?_)
          have hid : id = 51 ∧ (kd id).2 = 6 := by
            rcases kd_cls id with q | q | q | ⟨ci, q1, q2⟩ | q
            · exact fix_6 id q h6
            · rw [q.1] at h6; cases h6
            · omega
            · rw [q2] at h6; have h6 : 10 + ci = 6 := h6; omega
            · rw [q] at h6; cases h6
          rw [hid.2] at hk
          rw [hid.1]
          have : 51 + 1 + 2 * k ∈ ids V := by
            have h : ∀ k, k < 6 → 51 + 1 + 2 * k ∈ fixL := by decide +kernel
            exact fxl (h k hk)
          rw [hva _ this]
        · rw [if_neg h6, if_neg h6]
          by_cases h10 : 10 ≤ (kd id).1
          · refine EQV_of (congrArg (fun z => Sum.inr ((kd id).1 - 10, z)) ?_)
            apply List.ext_getElem?
            intro k
            unfold flds
            rw [List.getElem?_mapIdx, List.getElem?_mapIdx]
            cases hb : (tplT.getD ((kd id).1 - 10) [])[k]? with
            | none => rfl
            | some c =>
              show some (fv (va V) id (σ.1 id) (σ.2.2 id) k c) = some (fv (va V') id (σ.1 id) (σ.2.2 id) k c)
              unfold fv
              by_cases c0 : c = 0
              · rw [if_pos c0, if_pos c0]
              · rw [if_neg c0, if_neg c0]
                by_cases c1 : c = 1
                · rw [if_pos c1, if_pos c1]
                  subst c1
                  rw [hr k (Or.inr ⟨h10, hb⟩)]
                · rw [if_neg c1, if_neg c1]
                  have hc : c = (c - 2) + 2 := by omega
                  have := off_in hw hi h10 (k := k) (d := c - 2) (by rw [← hc]; exact hb)
                  rw [hva _ this]
          · exfalso
            rcases kd_cls id with q | q | q | ⟨ci, q1, q2⟩ | q
            · have h : ∀ i ∈ fixL, (kd i).1 < 7 ∨ 10 ≤ (kd i).1 := by decide +kernel
              have := h id q
              omega
            · rw [q.1] at h10; exact h10 (by decide +kernel)
            · omega
            · rw [q2] at h10; exact h10 (by show 10 ≤ 10 + ci; omega)
            · rw [q] at h10; exact h10 (by decide +kernel)
/-- cells that come to those that were -/
theorem GH_ext {V : Vx} {σ σ' : Sg} {L : List (Nat × Nat)} {ω : RWd} {H : Heap} (hD : va_D (vA V) (cells V σ)) (hG : GRH V ω H)
    (k1 : ∀ a ∈ (rwd V σ).1, a ∈ ω.1 ∧ ω.2 a = (rwd V σ).2 a)
    (k2 : ∀ x ∈ L, x.1 ∉ ids V ∧ x.2 ∈ ω.1 ∧ x.2 ∉ (rwd V σ).1 ∧ EQV (ω.2 x.2) (ct (vext V L) σ' x.1))
    (k3 : (L.map (fun x => x.1)).Nodup) (k3' : (L.map (fun x => x.2)).Nodup)
    (k4 : ∀ id ∈ ids V, EQV (ct V σ id) (ct (vext V L) σ' id)) (k5 : wfd (vext V L)) : GH (vext V L) σ' H := by
  have hold : ∀ id ∈ ids V, va (vext V L) id = va V id := fun id hi => vext_old (fun z => by
    obtain ⟨x, hx, e⟩ := List.mem_map.mp z
    have e : x.1 = id := e
    exact (k2 x hx).1 (e ▸ hi))
  have hnew : ∀ x ∈ L, va (vext V L) x.1 = x.2 := fun x hx => vext_new k3 hx
  have hat : ∀ a, a ∈ ω.1 → va_at (vD V) vwCl (a, ω.2 a) H := fun a ha => by
    obtain ⟨i, hi⟩ := rc_at ha
    exact hG.1 i _ hi
  have hA : ∀ a, a ∈ ω.1 → vA V a := fun a ha => by
    obtain ⟨i, hi⟩ := rc_at ha
    exact hG.2.2 i _ hi
  have hmem : ∀ id ∈ ids V, va V id ∈ ω.1 ∧ ω.2 (va V id) = ct V σ id := fun id hi => by
    have h := k1 (va V id) (List.mem_map.mpr ⟨id, hi, rfl⟩)
    exact ⟨h.1, h.2.trans (rwd_ct hD hi)⟩
  have hall : ∀ id ∈ ids (vext V L), va_at (vD V) vwCl (va (vext V L) id, ct (vext V L) σ' id) H ∧ vA V (va (vext V L) id) := fun id hi => by
    rw [vext_ids] at hi
    rcases List.mem_append.mp hi with hi | hi
    · rw [hold id hi]
      have h := hmem id hi
      have q := hat _ h.1
      rw [h.2] at q
      exact ⟨k4 id hi _ _ _ q, hA _ h.1⟩
    · obtain ⟨x, hx, rfl⟩ := List.mem_map.mp hi
      rw [hnew x hx]
      have h := k2 x hx
      exact ⟨h.2.2.2 _ _ _ (hat _ h.2.1), hA _ h.2.1⟩
  refine ⟨fun k q hq => ?_, va_D_of ?_ (fun q hq => ?_), k5⟩
  · obtain ⟨id, hi, rfl⟩ := List.mem_map.mp (List.mem_of_getElem? hq)
    exact (hall id hi).1
  · have e : (cells (vext V L) σ').map (fun x => x.1) = (ids V).map (va V) ++ L.map (fun x => x.2) := by
      unfold cells
      rw [List.map_map, vext_ids, List.map_append, List.map_map]
      congr 1
      · exact List.map_congr_left (fun id hi => hold id hi)
      · exact List.map_congr_left (fun x hx => hnew x hx)
    rw [e, List.nodup_append]
    refine ⟨?_, k3', fun a ha b hb z => ?_⟩
    · have h := va_D_nd hD
      unfold cells at h
      rw [List.map_map] at h
      exact h
    · obtain ⟨x, hx, rfl⟩ := List.mem_map.mp hb
      exact (k2 x hx).2.2.1 (z ▸ ha)
  · obtain ⟨id, hi, rfl⟩ := List.mem_map.mp hq
    exact (hall id hi).2
/-! a world that goes on with more cells -/
noncomputable def mset (M : Mx) (V' : Vx) : Mx := match M with
  | (p, l, e, R, s, m, args, below, meth, c, V, nL, Q) => (p, l, e, R, s, m, args, below, meth, c, V', nL, Q)
theorem mset_V {M : Mx} {V' : Vx} : mV (mset M V') = V' := by obtain ⟨p, l, e, R, s, m, args, below, meth, c, V, nL, Q⟩ := M; rfl
theorem mset_N {M : Mx} {V' : Vx} : mN (mset M V') = mN M := by obtain ⟨p, l, e, R, s, m, args, below, meth, c, V, nL, Q⟩ := M; rfl
/-- a world that has what another has, and maybe more -/
noncomputable def VR (V V' : Vx) : Prop := (vD V' = vD V ∧ vC V' = vC V ∧ vA V' = vA V ∧ vX V' = vX V) ∧ (∀ id ∈ ids V, id ∈ ids V' ∧ va V' id = va V id) ∧ (∀ id, id < 1000 → va V' id = va V id)
theorem VR_rf {V : Vx} : VR V V := ⟨⟨rfl, rfl, rfl, rfl⟩, fun _ h => ⟨h, rfl⟩, fun _ _ => rfl⟩
theorem VR_ext {V : Vx} {L : List (Nat × Nat)} (h : ∀ x ∈ L, x.1 ∉ ids V ∧ 1000 ≤ x.1) : VR V (vext V L) := by
  have hn : ∀ id, (id ∈ ids V ∨ id < 1000) → id ∉ L.map (fun x => x.1) := fun id hi z => by
    obtain ⟨x, hx, e⟩ := List.mem_map.mp z
    have e : x.1 = id := e
    have := h x hx
    rw [e] at this
    rcases hi with hi | hi
    · exact this.1 hi
    · omega
  exact ⟨⟨rfl, rfl, rfl, rfl⟩, fun id hi => ⟨by rw [vext_ids]; exact List.mem_append_left _ hi, vext_old (hn id (Or.inl hi))⟩, fun id hi => vext_old (hn id (Or.inr hi))⟩
theorem vk_S_eq {N : Nat} {len : List Nat} {byt : List (List Int32)} {k v k' v' : Nat → Nat} {A : Nat → Prop} {U : State} {H : Heap} (h : vk_S N len byt k v A U H) (e1 : ∀ i, i < N → k' i = k i) (e2 : ∀ i, i < N → v' i = v i) : vk_S N len byt k' v' A U H :=
  ⟨fun i hi => by rw [e1 i hi, e2 i hi]; exact h.1 i hi, fun i j hi hj e => h.2 i j hi hj (by rw [← e1 i hi, ← e1 j hj]; exact e)⟩
theorem SX_vr {V V' : Vx} {U : State} (h : VR V V') (q : SX V U) : SX V' U := by
  obtain ⟨q1, q2, q3, q4⟩ := q
  unfold SX
  rw [h.1.2.2.1]
  refine ⟨vk_S_eq q1 (fun i hi => h.2.2 _ (by omega)) (fun i hi => h.2.2 _ (by omega)), fun i hi => ?_, q3, ?_⟩
  · rw [h.2.2 _ (by omega)]; exact q2 i hi
  · rw [h.2.2 _ (by decide +kernel)]; exact q4
theorem XC_vr {V V' : Vx} (h : VR V V') (q : XC V) : XC V' := by
  obtain ⟨q1, q2⟩ := q
  refine ⟨fun s t hA hs hk hx => ?_, fun U hx => ?_⟩
  · rw [h.1.2.2.2] at hx ⊢
    exact q1 s t hA hs (fun a ha hn => hk a ha (by rw [h.1.2.2.1]; exact hn)) hx
  · rw [h.1.2.2.2] at hx
    exact ⟨(q2 U hx).1, SX_vr h (q2 U hx).2⟩
theorem Cx_vr {M : Mx} {cc : ByteArray} {ret : Option FieldType} {own : String} {Ts : List Cond} {rm : Room} {mc ms : Nat} {Qc : Array Value → State → Outcome → State → Prop} {V' : Vx} (C : Cx M cc ret own Ts rm mc ms Qc) (h : VR (mV M) V') (hw : wfd V') : Cx (mset M V') cc ret own Ts rm mc ms Qc := by
  obtain ⟨p, l, e, R, s, m, args, below, meth, c, V, nL, Q⟩ := M
  obtain ⟨hx, hb, hml, hown, hts, hr, hlk, hK, hR, hQ, hw0, hX⟩ := C
  have e1 : vD V' = vD V := h.1.1
  have e2 : vC V' = vC V := h.1.2.1
  have e3 : vA V' = vA V := h.1.2.2.1
  have e4 : vX V' = vX V := h.1.2.2.2
  refine ⟨hx, hb, hml, hown, hts, hr, hlk, ?_, hR, ?_, hw, ?_, XC_vr h hX.2⟩
  · have e5 : tysV V' = tysV V := by unfold tysV; rw [e2]
    rw [e1, e5]; exact hK
  · rw [e3]; exact hQ
  · rw [e4]; exact hX.1
noncomputable def QIW (V : Vx) (Qk : Int32 → Vx → Sg → Prop) : Array Value → State → Outcome → State → Prop := va_Qi (fun r (u : Vx × Sg) => Qk r u.1 u.2) (fun u t => GG u.1 u.2 t) (vA V)
section RulesW
variable {M : Mx} {cc : ByteArray} {ret : Option FieldType} {own : String} {Ts : List Cond} {rm rc0 : Room} {mc ms : Nat} {Qc : Array Value → State → Outcome → State → Prop} {pc : Nat} {lv lv' : List (Nat × Value)} {st : List Value} {σ : Sg} {kn : Nat × Nat}
theorem P_iretW {V0 : Vx} {Qk : Int32 → Vx → Sg → Prop} (C : Cx M cc (some .int) own Ts rm mc ms (QIW V0 Qk)) (hA : vA (mV M) = vA V0) {x : Int32} (h1 : kn.1 ≤ mc) (h2 : kn.2 ≤ ms) (hd : decode cc pc = .ok (.ireturn, 1)) (h : Qk x (mV M) σ) : PS M pc lv [.int x] σ kn := by
  obtain ⟨p, l, e, R, s, m, args, below, meth, c, V, nL, Q⟩ := M
  intro ls H locs hl hG hS
  obtain ⟨hx, hb, hml, hown, hts, hr, hlk, hK, hR, hQ, hw, hX⟩ := C
  have hQ : Q = MQ below (QIW V0 Qk) args s mc ms (vA V) := hQ
  have hA : vA V = vA V0 := hA
  subst hQ
  refine W.widen h1 h2 ?_
  refine W.iret (v := x) hx hb hr (fun t ht hW => ⟨⟨x, (V, σ), rfl, h, GG_mk ht hG hK hX hS hW⟩, ?_⟩) hS.2.2 hd hlk
  rw [← hA]; exact hS.F ht
noncomputable def refs_in (V : Vx) (vs : List Value) : Prop := ∀ a, Value.ref a ∈ vs → a ∈ ids V
theorem map_vr {V V' : Vx} (h : VR V V') {vs : List Value} (hv : refs_in V vs) : vs.map (cv V') = vs.map (cv V) := by
  apply List.map_congr_left
  intro v hm
  cases v with
  | ref a => show Value.ref (va V' a) = Value.ref (va V a); rw [(h.2.1 a (hv a hm)).2]
  | _ => rfl
theorem lmap_vr {V V' : Vx} (h : VR V V') {lv : List (Nat × Value)} (hv : refs_in V (lv.map (fun q => q.2))) : lv.map (fun q => (q.1, cv V' q.2)) = lv.map (fun q => (q.1, cv V q.2)) := by
  apply List.map_congr_left
  intro q hm
  have e : cv V' q.2 = cv V q.2 := by
    cases hq : q.2 with
    | ref a =>
      show Value.ref (va V' a) = Value.ref (va V a)
      rw [(h.2.1 a (hv a (hq ▸ List.mem_map.mpr ⟨q, hm, rfl⟩))).2]
    | _ => rfl
  rw [e]
theorem bound_of (L : List Nat) : ∃ B, ∀ x ∈ L, x < B := by
  induction L with
  | nil => exact ⟨0, fun x h => absurd h List.not_mem_nil⟩
  | cons a L ih =>
    obtain ⟨B, hB⟩ := ih
    refine ⟨a + B + 1, fun x h => ?_⟩
    rcases List.mem_cons.mp h with h | h
    · omega
    · have := hB x h; omega
theorem fresh_m (V : Vx) {ci : Nat} (hc : isMc ci) : ∃ μ, μ ∉ ids V ∧ 2000 ≤ μ ∧ kd μ = (10 + ci, 0) := by
  obtain ⟨B, hB⟩ := bound_of (ids V)
  have := mc_ge hc
  have e : (2000 + 16 * B + ci) % 16 = ci := by omega
  refine ⟨2000 + 16 * B + ci, fun h => by have := hB _ h; omega, by omega, ?_⟩
  have h1 : ¬ (2000 + 16 * B + ci) < 175 := by omega
  have h2 : ¬ (2000 + 16 * B + ci) < 1000 := by omega
  have h3 : ¬ (2000 + 16 * B + ci) < 2000 := by omega
  unfold kd
  rw [if_neg h1, if_neg h2, if_neg h3, e, if_pos (List.contains_iff_mem.mpr (mcs_of hc))]
noncomputable def mvals (k n v : Int32) : Nat → Int32 := fun j => if j = 0 then k else if j = 1 then n else v
theorem tp_mc : ∀ ci ∈ mcs, tplT.getD ci [] = [0, 0, 0] := by decide +kernel
theorem flds_m {ad : Nat → Nat} {μ ci : Nat} {k n v : Int32} {r : Nat → Option Nat} (hc : ci ∈ mcs) : flds ad μ (mvals k n v) r ci = [.int k, .int n, .int v] := by
  unfold flds
  rw [tp_mc ci hc]
  rfl
theorem sia_1 {σ : Sg} {a b : Nat} {g : Nat → Int32} (h : b ≠ a) : (sia σ a g).1 b = σ.1 b := va_up_ne _ _ h
theorem P_made {k9 n9 v9 : Int32} {idx : Nat} (C : Cx M cc ret own Ts rm mc ms Qc) (hU : UPV (mV M)) (x : XI (mV M) σ) (k : KF own Ts rm idx yX11_made wsX11_made (rmr 4 1 3) 3) (hst : (st.map fun v => v.category).sum ≤ 8) (hd : decode cc pc = .ok (.invokestatic idx, 3)) (hf : kn.1 + 1 ≤ rm.cells ∧ kn.2 + 3 ≤ rm.slots) (hlv : refs_in (mV M) (lv.map (fun q => q.2))) (hsv : refs_in (mV M) st)
    (h : ∀ q μ, μ ∉ ids (mV M) → 2000 ≤ μ → kd μ = (10 + kci k9, 0) → wfd (vext (mV M) [(μ, q)]) → PS (mset M (vext (mV M) [(μ, q)])) (pc + 3) lv (.ref μ :: st) (sia σ μ (mvals k9 n9 v9)) (kn.1 + 1, kn.2 + 3)) : PS M pc lv (.int v9 :: .int n9 :: .int k9 :: st) σ kn := by
  obtain ⟨p, l, e, R, s, m, args, below, meth, c, V, nL, Q⟩ := M
  intro ls H locs hl hG hS
  obtain ⟨hx, hb, hml, hown, hts, hr, hlk, hK, rfl, rfl, hw, hX⟩ := C
  obtain ⟨bytes, maxL, rt, ws', k1, k2, k3, k4⟩ := k
  have hrc : rc (rwd V σ) = cells V σ := rwd_rc hG.2.1
  have hGR : GRH V (rwd V σ) H := by unfold GRH; rw [hrc]; exact ⟨hG.1, hG.2.1⟩
  have es : (Value.int v9 :: .int n9 :: .int k9 :: st).map (cv V) = [Value.int k9, .int n9, .int v9].reverse ++ st.map (cv V) := rfl
  rw [es]
  refine va_callr (va_runS (As := [Value.int k9, .int n9, .int v9]) (rest := st.map (cv V)) ⟨hx, hb, hml, hown, hts⟩ (k_X11_made (l := l) (V := V) (ω0 := rwd V σ) (k := k9) (n := n9) (v := v9) hU) (va_cwS 3 hts k1 k2 rfl rfl k3 k4) ⟨GRRblind, fun U hU hW => ⟨rfl, GRR_mk hU hGR hK hw hX hS hW⟩⟩ rfl rfl hl.1 rfl (cat_sum hst) hd hf) hS (fun _ _ h => h) (fun _ h => h) (fun u ra t H1 locs1 ht hvm hq hB hz hk hS1 => ?_)
  subst ht
  obtain ⟨q, ω⟩ := u
  obtain ⟨g1, g2, g3, g4⟩ := hq
  obtain ⟨rfl, hB⟩ := hB
  have hci := kci_mc k9
  obtain ⟨μ, hμ1, hμ2, hμ3⟩ := fresh_m V hci
  have hvr : VR V (vext V [(μ, ra)]) := VR_ext (fun y hy => by
    obtain rfl : y = (μ, ra) := by simpa using hy
    exact ⟨hμ1, by show 1000 ≤ μ; omega⟩)
  have hwf : wfd (vext V [(μ, ra)]) := fun f hf hk => by
    rw [vext_ids] at hf
    rcases List.mem_append.mp hf with hf | hf
    · obtain ⟨w1, w2, w3, w4⟩ := hw f hf hk
      exact ⟨(hvr.2.1 _ w1).1, (hvr.2.1 _ w2).1, (hvr.2.1 _ w3).1, (hvr.2.1 _ w4).1⟩
    · obtain rfl : f = μ := by simpa using hf
      rw [hμ3] at hk
      have := mc_ge hci
      have hk : 10 + kci k9 = 12 := congrArg Prod.fst hk
      omega
  have hG2 : GH (vext V [(μ, ra)]) (sia σ μ (mvals k9 n9 v9)) t.heap := by
    refine GH_ext hG.2.1 hB.1 g3 (fun y hy => ?_) (by simp) (by simp) (fun id hi => ?_) hwf
    · obtain rfl : y = (μ, ra) := by simpa using hy
      refine ⟨hμ1, g2, g1, ?_⟩
      show EQV (ω.2 ra) (ct (vext V [(μ, ra)]) (sia σ μ (mvals k9 n9 v9)) μ)
      rw [g4, ct_o hμ3, show (sia σ μ (mvals k9 n9 v9)).1 μ = mvals k9 n9 v9 from va_up_self _ _ _, flds_m (mcs_of hci)]
      exact EQV_rf
    · have hne : id ≠ μ := fun z => hμ1 (z ▸ hi)
      exact ct_ext (V := V) (V' := vext V [(μ, ra)]) (σ := σ) (σ' := sia σ μ (mvals k9 n9 v9)) x hw rfl (fun j hj => (hvr.2.1 j hj).2) hi (sia_1 hne) rfl rfl
  have k5 := h ra μ hμ1 hμ2 hμ3 hwf ls t.heap locs1 (by
    show lv_has ls nL (lv.map (fun q => (q.1, cv (vext V [(μ, ra)]) q.2)))
    rw [lmap_vr hvr hlv]; exact hl) hG2 hS1
  have e2 : (Value.ref μ :: st).map (cv (vext V [(μ, ra)])) = Value.ref ra :: st.map (cv V) := by
    rw [List.map_cons, map_vr hvr hsv]
    show Value.ref (va (vext V [(μ, ra)]) μ) :: _ = _
    rw [show va (vext V [(μ, ra)]) μ = ra from vext_new (x := (μ, ra)) (by simp) (by simp)]
  have k5 : W p l e R s m args below meth c t.heap locs1 (kn.1 + 1) (kn.2 + 3) _ (F0 m (pc + 3) ls ((Value.ref μ :: st).map (cv (vext V [(μ, ra)])))) := k5
  rw [e2] at k5
  exact k5
end RulesW
theorem isMw_vr {V V' : Vx} (h : VR V V') {μ : Nat} (q : isMw V μ) : isMw V' μ := by
  obtain ⟨ci, q1, q2, q3⟩ := q
  exact ⟨ci, q1, q2, (h.2.1 μ q3).1⟩
theorem XI_vr {V V' : Vx} {σ : Sg} (h : VR V V') (x : XI V σ) : XI V' σ := by
  obtain ⟨x1, x2, x3, x4⟩ := x
  refine ⟨x1, fun c hc => ?_, fun k f hf => ⟨(x3 k f hf).1, (h.2.1 f (x3 k f hf).2).1⟩, x4⟩
  obtain ⟨⟨f, f1, f2, f3⟩, g⟩ := x2 c hc
  exact ⟨⟨f, f1, f2, (h.2.1 f f3).1⟩, fun k μ hμ => isMw_vr h (g k μ hμ)⟩
theorem XI_m {V : Vx} {σ : Sg} {μ : Nat} {k n v : Int32} (x : XI V σ) (hμ : 2000 ≤ μ) (k0 : 0 ≤ k.toInt) (k6 : k.toInt ≤ 6) (n0 : 0 ≤ n.toInt) (n5 : n.toInt ≤ 5) (v0 : 0 ≤ v.toInt) (v9 : v.toInt ≤ 9) : XI V (sia σ μ (mvals k n v)) := by
  refine XIs_sia x (fun j lo hi hl => ?_)
  have e : lim μ j = if j = 0 then some (0, 6) else if j = 1 then some (0, 5) else if j = 2 then some (0, 9) else none := by
    have h1 : ¬ μ < 69 := by omega
    have h2 : fo μ = none := by
      unfold fo
      rw [if_neg (by omega), if_neg (by omega), if_neg (by omega), if_neg (by omega)]
    unfold lim
    rw [if_neg h1, h2]
    show (if 2000 ≤ μ then _ else _) = _
    rw [if_pos hμ]
  rw [e] at hl
  unfold mvals
  by_cases e0 : j = 0
  · rw [if_pos e0] at hl ⊢; cases hl; exact ⟨k0, k6⟩
  · rw [if_neg e0] at hl ⊢
    by_cases e1 : j = 1
    · rw [if_pos e1] at hl ⊢; cases hl; exact ⟨n0, n5⟩
    · rw [if_neg e1] at hl ⊢
      by_cases e2 : j = 2
      · rw [if_pos e2] at hl; cases hl; exact ⟨v0, v9⟩
      · rw [if_neg e2] at hl; cases hl
theorem fa_X11_mower_12 : FA RX11 wsX11_mower 12 11 0 "NineMowers" := by
  show _ ∧ _ ∧ _ ∧ _
  exact ⟨by decide +kernel, fun _ h => List.mem_cons_of_mem _ (List.mem_append_left _ (List.mem_append_left _ (List.mem_append_left _ (List.mem_append_left _ (List.mem_append_left _ (List.mem_append_left _ (List.mem_append_left _ (List.mem_append_left _ (List.mem_append_right _ h))))))))), List.mem_of_getElem? (i := 1) rfl, Or.inl rfl⟩
theorem fa_X11_mower_76 : FA RX11 wsX11_mower 76 1 1 "NineMowers$Course" := by
  show _ ∧ _ ∧ _ ∧ _
  exact ⟨by decide +kernel, fun _ h => List.mem_cons_of_mem _ (List.mem_append_left _ (List.mem_append_left _ (List.mem_append_left _ (List.mem_append_left _ (List.mem_append_left _ (List.mem_append_left _ (List.mem_append_left _ (List.mem_append_right _ h)))))))), List.mem_of_getElem? (i := 2) rfl, Or.inl rfl⟩
theorem kf_X11_mower : KF RX11 wsX11_mower (rmr 6 1 3) 79 yX11_made wsX11_made (rmr 4 1 3) 3 := ⟨_, _, _, _, gX11_mower_X11_made, rfl, by decide +kernel, by decide +kernel⟩
theorem kv_X11_mower : KV RX11 wsX11_mower (rmr 6 1 3) 83 RX1 yX1_comes wsX1_comes (rmz 0) 1 := ⟨_, _, _, _, gX11_mower_X1_comes, rfl, by decide +kernel, by decide +kernel⟩
theorem NN_sia {σ : Sg} {c a : Nat} {g : Nat → Int32} (n : NN σ c) (h : a ≠ c) (h2 : a ≠ c + 2) : NN (sia σ a g) c := by
  have e : ∀ k, gi (sia σ a g) c k = gi σ c k := fun k => by rw [gi_sia, if_neg (fun z => h z.symm)]
  have e2 : ∀ k, gi (sia σ a g) (c + 2) k = gi σ (c + 2) k := fun k => by rw [gi_sia, if_neg (fun z => h2 z.symm)]
  unfold NN
  rw [e, e]
  exact ⟨fun p hp => by rw [e2]; exact n.1 p hp, n.2⟩
noncomputable def K_X11_mower (l : Launch) (V : Vx) (a1 a2 : Int32) (σ : Sg) (Qk : Int32 → Vx → Sg → Prop) : Prop := Ka l V yX11_mower wsX11_mower (rmr 6 1 3) 1 3 [.ref 0, .int a1, .int a2] σ (QIW V Qk)
/-! a field comes to be -/
noncomputable abbrev KaN (l : Launch) (V : Vx) (y : MethodName) (ws : List Cond) (rm : Room) (mc ms : Nat) (as : List Value) (σ : Sg) (Qc : Array Value → State → Outcome → State → Prop) : Prop := Met l y ws rm (va_Pc (as.map (cv V)) (fun U => GG V σ U ∧ NWU U)) Qc mc ms (vA V)
theorem KaN_of {l : Launch} {V : Vx} {y : MethodName} {ws ws' : List Cond} {rm : Room} {mc ms : Nat} {cc : ByteArray} {maxL : Nat} {ret : Option FieldType} {own : String} {as : List Value} {σ : Sg} {Qc : Array Value → State → Outcome → State → Prop}
    (hy : plainName y.cls = true) (hw : ws = Cond.code y cc maxL ret :: ws') (ho : y.cls = own) (hlen : (lg_sl (as.map (cv V))).length ≤ maxL)
    (h : ∀ M : Mx, mL M = l → mV M = V → mN M = maxL → Cx M cc ret own ws rm mc ms Qc → mNW M → PS M 0 (lv_args 0 as) [] σ (0, 0)) : KaN l V y ws rm mc ms as σ Qc := by
  refine Met.ofW (cc := cc) (maxL := maxL) (ret := ret) hy hw ?_
  intro p e s m args below meth c s1 B hml hv
  obtain ⟨rfl, ⟨hG, hK, hX⟩, hNW⟩ := hv
  have hown : s.vm.findClass own = some m.cls := by rw [← ho]; exact findClass_of_methodNamed B.named
  have hl := lv_entry (as.map (cv V)) (n := maxL) hlen
  rw [lg_entry_eq]
  rw [lv_args_map] at hl
  exact h (p, l, e, rm, s, m, _, below, meth, c, V, maxL, _) rfl rfl rfl ⟨B.exec, B.bytes, hml, hown, atoms_spec (ws := ws) B.pre, B.returns, B.notSynchronized, hK, rfl, rfl, hG.2.2, hX⟩ hNW _ _ _ hl hG va_S.rf
theorem kd_f {k : Nat} (hk : k < 200) : kd (1000 + 5 * k) = (12, 0) := by
  have h1 : ¬ (1000 + 5 * k) < 175 := by omega
  have h2 : ¬ (1000 + 5 * k) < 1000 := by omega
  have h3 : (1000 + 5 * k) < 2000 := by omega
  have h4 : (1000 + 5 * k - 1000) % 5 = 0 := by omega
  unfold kd
  rw [if_neg h1, if_neg h2, if_pos h3, h4]
  rfl
theorem kdF_3' {f : Nat} (h : kd f = (12, 0)) (hf : 1000 ≤ f) : kd (f + 3) = (0, 10) := by
  rcases kdF h with q | ⟨k, hk, q⟩
  · omega
  · subst q
    clear h
    have h1 : ¬ (1000 + 5 * k + 3) < 175 := by omega
    have h2 : ¬ (1000 + 5 * k + 3) < 1000 := by omega
    have h3 : (1000 + 5 * k + 3) < 2000 := by omega
    have h4 : (1000 + 5 * k + 3 - 1000) % 5 = 3 := by omega
    unfold kd
    rw [if_neg h1, if_neg h2, if_pos h3, h4]
    rfl
noncomputable def fvals : Nat → Int32 := fun j => if j = 0 then 2 else if j = 1 then 1 else if j = 2 then 60 else 0
noncomputable def z0 : Nat → Int32 := fun _ => 0
noncomputable def fnew (σ : Sg) (f : Nat) : Sg := sra (sia (sia (sia (sia (sia σ f fvals) (f + 1) z0) (f + 2) z0) (f + 3) z0) (f + 4) z0) f (fun _ => none)
theorem gi_sra {σ : Sg} {a b j : Nat} {g : Nat → Option Nat} : gi (sra σ a g) b j = gi σ b j := rfl
theorem gr_sra {σ : Sg} {a b j : Nat} {g : Nat → Option Nat} : gr (sra σ a g) b j = if b = a then g j else gr σ b j := by
  show va_up σ.2.2 a g b j = _
  by_cases e : b = a
  · subst e; rw [va_up_self, if_pos rfl]
  · rw [va_up_ne _ _ e, if_neg e]; rfl
theorem gr_sia {σ : Sg} {a b j : Nat} {g : Nat → Int32} : gr (sia σ a g) b j = gr σ b j := rfl
theorem fn_i {σ : Sg} {f b k : Nat} (h : ¬ (f ≤ b ∧ b ≤ f + 4)) : gi (fnew σ f) b k = gi σ b k := by
  unfold fnew
  rw [gi_sra, gi_sia, if_neg (by omega), gi_sia, if_neg (by omega), gi_sia, if_neg (by omega), gi_sia, if_neg (by omega), gi_sia, if_neg (by omega)]
theorem fn_r {σ : Sg} {f b k : Nat} : gr (fnew σ f) b k = if b = f then none else gr σ b k := by
  unfold fnew
  rw [gr_sra, gr_sia, gr_sia, gr_sia, gr_sia, gr_sia]
theorem fn_f {σ : Sg} {f k : Nat} : gi (fnew σ f) f k = fvals k := by
  unfold fnew
  rw [gi_sra, gi_sia, if_neg (by omega), gi_sia, if_neg (by omega), gi_sia, if_neg (by omega), gi_sia, if_neg (by omega), gi_sia, if_pos rfl]
theorem fn_z {σ : Sg} {f o k : Nat} (h1 : 1 ≤ o) (h4 : o ≤ 4) : gi (fnew σ f) (f + o) k = 0 := by
  unfold fnew
  rw [gi_sra]
  rcases (show o = 1 ∨ o = 2 ∨ o = 3 ∨ o = 4 by omega) with rfl | rfl | rfl | rfl
  · rw [gi_sia, if_neg (by omega), gi_sia, if_neg (by omega), gi_sia, if_neg (by omega), gi_sia, if_pos rfl]; rfl
  · rw [gi_sia, if_neg (by omega), gi_sia, if_neg (by omega), gi_sia, if_pos rfl]; rfl
  · rw [gi_sia, if_neg (by omega), gi_sia, if_pos rfl]; rfl
  · rw [gi_sia, if_pos rfl]; rfl
theorem XI_f {V : Vx} {σ : Sg} {f : Nat} (x : XI V σ) (hk : kd f = (12, 0)) (hf : 1000 ≤ f) : XI V (fnew σ f) := by
  obtain ⟨x1, x2, x3, x4⟩ := x
  refine ⟨fun id j lo hi hl => ?_, fun c hc => ?_, fun k g hg => ?_, fun g hg => ?_⟩
  · by_cases e : f ≤ id ∧ id ≤ f + 4
    · obtain ⟨o, ho, rfl⟩ : ∃ o, o ≤ 4 ∧ id = f + o := ⟨id - f, by omega, by omega⟩
      rcases (show o = 0 ∨ o = 1 ∨ o = 2 ∨ o = 3 ∨ o = 4 by omega) with rfl | rfl | rfl | rfl | rfl
      · rw [show gi (fnew σ f) (f + 0) j = fvals j from fn_f]
        by_cases e4 : j = 4
        · subst e4; rw [show lim (f + 0) 4 = _ from lim_F0_4 hk] at hl; cases hl; decide
        · by_cases e8 : j = 8
          · subst e8; rw [show lim (f + 0) 8 = _ from lim_F0_8 hk] at hl; cases hl; decide
          · by_cases e10 : j = 10
            · subst e10; rw [show lim (f + 0) 10 = _ from lim_F0_10 hk] at hl; cases hl; decide
            · by_cases e11 : j = 11
              · subst e11; rw [show lim (f + 0) 11 = _ from lim_F0_11 hk] at hl; cases hl; decide
              · rw [show lim (f + 0) j = _ from lim_F0_n hk j ⟨e4, e8, e10, e11⟩] at hl; cases hl
      · rw [fn_z (by decide +kernel) (by decide +kernel)]; rw [lim_F1 hk] at hl; cases hl; decide
      · rw [lim_F2 hk] at hl; cases hl
      · rw [lim_F3 hk] at hl; cases hl
      · rw [fn_z (by decide +kernel) (by decide +kernel)]; rw [lim_F4 hk] at hl; cases hl; decide
    · rw [fn_i e]; exact x1 id j lo hi hl
  · have hc1 : c < 1000 := by rcases hc with rfl | rfl | rfl <;> decide
    obtain ⟨⟨g, g1, g2, g3⟩, g4⟩ := x2 c hc
    refine ⟨⟨g, ?_, g2, g3⟩, fun k μ hμ => g4 k μ ?_⟩
    · rw [fn_r, if_neg (by omega)]; exact g1
    · rw [fn_r, if_neg (by rcases hc with rfl | rfl | rfl <;> omega)] at hμ; exact hμ
  · rw [fn_r, if_neg (by omega)] at hg; exact x3 k g hg
  · rw [fn_r]
    by_cases e : g = f
    · rw [if_pos e]; exact Or.inl rfl
    · rw [if_neg e]; exact x4 g hg
section RulesF
variable {M : Mx} {cc : ByteArray} {ret : Option FieldType} {own : String} {Ts : List Cond} {rm rc0 : Room} {mc ms : Nat} {Qc : Array Value → State → Outcome → State → Prop} {pc : Nat} {lv lv' : List (Nat × Value)} {st : List Value} {σ : Sg} {kn : Nat × Nat}
theorem sr_cells5 {V : Vx} {σ : Sg} {A : Nat → Prop} {id n q0 k : Nat} {v : Option Nat} (hD : va_D A (cells V σ)) (hk : kd id = (5, n)) (hi : id ∈ ids V) (hq : (cells V σ)[q0]? = some (va V id, ct V σ id)) : (cells V σ).set q0 (va V id, .inl (vC V 5, n, .inr (.inr (.inr (.inr (va_up (fun j => (σ.2.2 id j).map (va V)) k (v.map (va V)))))))) = cells V (sr σ id k v) := by
  have e := cell_set (σ' := sr σ id k v) hD hq hi (fun j hj => ct_sra hj)
  rw [ct_r hk (by decide +kernel) (by decide +kernel)] at e
  rw [← e, map_up]
  show _ = List.set _ _ (_, Sum.inl (_, _, Sum.inr (Sum.inr (Sum.inr (Sum.inr (fun j => (va_up σ.2.2 id _ id j).map (va V)))))))
  rw [va_up_self]
theorem P_astF (C : Cx M cc ret own Ts rm mc ms Qc) {id n μ : Nat} {i : Int32} (hk : kd id = (5, n)) (hi : id ∈ ids (mV M)) (hin : vp_in i n) (hkm : kd μ = (12, 0)) (him : μ ∈ ids (mV M)) (hd : decode cc pc = .ok (.aastore, 1)) (h : PS M (pc + 1) lv st (sr σ id i.toNatClampNeg (some μ)) kn) : PS M pc lv (.ref μ :: .int i :: .ref id :: st) σ kn := by
  obtain ⟨p, l, e, R, s, m, args, below, meth, c, V, nL, Q⟩ := M
  intro ls H locs hl hG hS
  obtain ⟨hx, hb, hml, hown, hts, hr, hlk, hK, rfl, rfl, hw, hX⟩ := C
  obtain ⟨q0, hq⟩ := cell_at (V := V) (σ := σ) hi
  have hq0 := hq
  rw [ct_r hk (by decide +kernel) (by decide +kernel)] at hq
  obtain ⟨qm, hqm⟩ := cell_at (V := V) (σ := σ) him
  rw [ct_o (ci := 2) hkm] at hqm
  refine va_astq (D := vD V) hx hb hK hG.1 hG.2.1 hS q0 5 qm 2 hq (r := (RX2, TX2, 12)) rfl hqm rfl hin hd (fun H1 locs1 hP hD hS => ?_)
  have e := sr_cells5 (k := i.toNatClampNeg) (v := some μ) hG.2.1 hk hi hq0
  rw [show some (va V μ) = (some μ).map (va V) from rfl, e] at hP hD
  exact h ls H1 locs1 hl ⟨hP, hD, hG.2.2⟩ hS
noncomputable def fL (f q0 q1 q2 q3 q4 : Nat) : List (Nat × Nat) := [(f, q0), (f + 1, q1), (f + 2, q2), (f + 3, q3), (f + 4, q4)]
theorem P_newF {idx i2 k9 : Nat} (C : Cx M cc ret own Ts rm mc ms Qc) (hU : UPV (mV M)) (hNW : mNW M) (x : XI (mV M) σ) (hk9 : k9 < 200) (hfr : ∀ r, r < 5 → 1000 + 5 * k9 + r ∉ ids (mV M)) (hin2 : ∀ w ∈ u_ws RX2 TX2 12, w ∈ Ts) (h1 : Cond.classLink own idx RX2 ∈ Ts) (h2 : Cond.instantiable RX2 12 ∈ Ts) (h3 : Cond.initialized RX2 ∈ Ts) (k : KIN Ts rm yX2_init wsX2_init (rmr 1 4 130) 0) (ho : own = RX11) (hi2 : i2 = 70) (hst : (st.map fun v => v.category).sum ≤ 7)
    (hd1 : decode cc pc = .ok (.new idx, 3)) (hd2 : decode cc (pc + 3) = .ok (.dup, 1)) (hd3 : decode cc (pc + 4) = .ok (.invokespecial i2, 3)) (hf : kn.1 + 5 ≤ rm.cells ∧ kn.2 + 142 ≤ rm.slots) (hlv : refs_in (mV M) (lv.map (fun q => q.2))) (hsv : refs_in (mV M) st)
    (h : ∀ q0 q1 q2 q3 q4, VR (mV M) (vext (mV M) (fL (1000 + 5 * k9) q0 q1 q2 q3 q4)) → wfd (vext (mV M) (fL (1000 + 5 * k9) q0 q1 q2 q3 q4)) → PS (mset M (vext (mV M) (fL (1000 + 5 * k9) q0 q1 q2 q3 q4))) (pc + 7) lv (.ref (1000 + 5 * k9) :: st) (fnew σ (1000 + 5 * k9)) (kn.1 + 5, kn.2 + 142)) : PS M pc lv st σ kn := by
  subst ho hi2
  obtain ⟨p, l, e, R, s, m, args, below, meth, c, V, nL, Q⟩ := M
  intro ls H locs hl hG hS
  have hrc : rc (rwd V σ) = cells V σ := rwd_rc hG.2.1
  have hGR : GRH V (rwd V σ) H := by unfold GRH; rw [hrc]; exact ⟨hG.1, hG.2.1⟩
  have hw : wfd V := hG.2.2
  have hD0 := hG.2.1
  obtain ⟨f, ef⟩ : ∃ f, f = 1000 + 5 * k9 := ⟨_, rfl⟩
  have hkf : kd f = (12, 0) := by rw [ef]; exact kd_f hk9
  rw [← ef] at h hfr
  have K : PR (p, l, e, R, s, m, args, below, meth, c, V, nL, Q) pc (lv.map (fun q => (q.1, cv V q.2))) (st.map (cv V)) (rwd V σ) kn := by
    have e9 : ((st.map (cv V)).map fun v => v.category).sum ≤ 7 := by
      rw [List.map_map]
      have : (st.map ((fun v => v.category) ∘ cv V)) = st.map (fun v => v.category) := List.map_congr_left (fun v _ => cv_cat V v)
      rw [this]; exact hst
    refine Z_new (fs := [.int 0, .int 0, .int 0, .null, .int 0, .null, .null, .null, .int 0, .null, .int 0, .int 0]) C hU (ci := 2) rfl hin2 tyX2_ok h1 h2 h3 dfX2 (by omega) (by omega) hd1 (fun q hq => ?_)
    refine Z_dup C hd2 rfl ?_
    refine Z_ciN (rc0 := rmr 1 4 130) (Qk := FB V (rnew (rwd V σ) q (.inr (2, [.int 0, .int 0, .int 0, .null, .int 0, .null, .null, .null, .int 0, .null, .int 0, .int 0]))) q) (b := q) (As := []) C k (fun h9 => h9.2.1) hNW rfl (by show (Value.category (.ref q) + ((st.map (cv V)).map fun v => v.category).sum) ≤ 8; have : Value.category (.ref q) = 1 := rfl; omega) hd3 (by show kn.1 + 1 + 4 ≤ _ ∧ kn.2 + 12 + 130 ≤ _; omega) (k_X2_init hU (List.mem_append_right _ (List.mem_singleton.mpr rfl)) (va_up_self _ _ _)) (fun ω1 hB => ?_)
    obtain ⟨q1, q2, q3, q4, b1, c1⟩ := hB
    intro ls H locs hl hG' hS'
    obtain ⟨b1a, b1b, b1c, b1d⟩ := b1
    have hqn : q ∉ (rwd V σ).1 := hq
    have hm : ∀ y ∈ fL f q q1 q2 q3 q4, y.1 ∉ ids V ∧ 1000 ≤ y.1 := fun y hy => by
      have hy : y = (f, q) ∨ y = (f + 1, q1) ∨ y = (f + 2, q2) ∨ y = (f + 3, q3) ∨ y = (f + 4, q4) := by simpa [fL] using hy
      rcases hy with rfl | rfl | rfl | rfl | rfl
      · exact ⟨hfr 0 (by decide +kernel), by show 1000 ≤ f; omega⟩
      · exact ⟨hfr 1 (by decide +kernel), by show 1000 ≤ f + 1; omega⟩
      · exact ⟨hfr 2 (by decide +kernel), by show 1000 ≤ f + 2; omega⟩
      · exact ⟨hfr 3 (by decide +kernel), by show 1000 ≤ f + 3; omega⟩
      · exact ⟨hfr 4 (by decide +kernel), by show 1000 ≤ f + 4; omega⟩
    have hvr : VR V (vext V (fL f q q1 q2 q3 q4)) := VR_ext hm
    have hnd : ((fL f q q1 q2 q3 q4).map (fun x => x.1)).Nodup := by
      simp [fL, List.nodup_cons]
    have hq' : ∀ y ∈ [q1, q2, q3, q4], y ∈ ω1.1 ∧ y ∉ (rwd V σ).1 ∧ y ≠ q := fun y hy => by
      have hy : y = q1 ∨ y = q2 ∨ y = q3 ∨ y = q4 := by simpa using hy
      have g : ∀ z ∈ [(q1, ints V 100), (q2, ints V 10), (q3, ints V 10), (q4, ints V 10)], z.1 ∈ ω1.1 ∧ z.1 ∉ (rnew (rwd V σ) q (.inr (2, [.int 0, .int 0, .int 0, .null, .int 0, .null, .null, .null, .int 0, .null, .int 0, .int 0]))).1 := fun z hz => ⟨(b1d z hz).1, (b1d z hz).2.1⟩
      have g2 : y ∈ ω1.1 ∧ y ∉ (rnew (rwd V σ) q (.inr (2, [.int 0, .int 0, .int 0, .null, .int 0, .null, .null, .null, .int 0, .null, .int 0, .int 0]))).1 := by
        rcases hy with rfl | rfl | rfl | rfl
        · exact g (y, ints V 100) (by simp)
        · exact g (y, ints V 10) (by simp)
        · exact g (y, ints V 10) (by simp)
        · exact g (y, ints V 10) (by simp)
      refine ⟨g2.1, fun z => g2.2 (List.mem_append_left _ z), fun z => g2.2 (List.mem_append_right _ (by rw [z]; simp))⟩
    have hnd2 : ((fL f q q1 q2 q3 q4).map (fun x => x.2)).Nodup := by
      show [q, q1, q2, q3, q4].Nodup
      rw [List.nodup_cons]
      refine ⟨fun z => (hq' q z).2.2 rfl, ?_⟩
      exact b1c
    have hva : ∀ y ∈ fL f q q1 q2 q3 q4, va (vext V (fL f q q1 q2 q3 q4)) y.1 = y.2 := fun y hy => vext_new hnd hy
    have v1 : va (vext V (fL f q q1 q2 q3 q4)) (f + 1) = q1 := hva (f + 1, q1) (by simp [fL])
    have v2 : va (vext V (fL f q q1 q2 q3 q4)) (f + 2) = q2 := hva (f + 2, q2) (by simp [fL])
    have v3 : va (vext V (fL f q q1 q2 q3 q4)) (f + 3) = q3 := hva (f + 3, q3) (by simp [fL])
    have v4 : va (vext V (fL f q q1 q2 q3 q4)) (f + 4) = q4 := hva (f + 4, q4) (by simp [fL])
    have hwf : wfd (vext V (fL f q q1 q2 q3 q4)) := fun g hg hk => by
      have hL : ∀ o, o < 5 → f + o ∈ ids (vext V (fL f q q1 q2 q3 q4)) := fun o ho => by
        rw [vext_ids]
        refine List.mem_append_right _ ?_
        rcases (show o = 0 ∨ o = 1 ∨ o = 2 ∨ o = 3 ∨ o = 4 by omega) with rfl | rfl | rfl | rfl | rfl <;> simp [fL]
      rw [vext_ids] at hg
      rcases List.mem_append.mp hg with hg | hg
      · obtain ⟨w1, w2, w3, w4⟩ := hw g hg hk
        exact ⟨(hvr.2.1 _ w1).1, (hvr.2.1 _ w2).1, (hvr.2.1 _ w3).1, (hvr.2.1 _ w4).1⟩
      · have hg : g = f ∨ g = f + 1 ∨ g = f + 2 ∨ g = f + 3 ∨ g = f + 4 := by simpa [fL] using hg
        have h5 := kdF_ge hk
        have h6 := kdF_ge hkf
        obtain rfl : g = f := by omega
        exact ⟨hL 1 (by decide +kernel), hL 2 (by decide +kernel), hL 3 (by decide +kernel), hL 4 (by decide +kernel)⟩
    have hz : ∀ (o n : Nat) (qo : Nat), 1 ≤ o → o ≤ 4 → kd (f + o) = (0, n) → (qo, ints V n) ∈ [(q1, ints V 100), (q2, ints V 10), (q3, ints V 10), (q4, ints V 10)] → EQV (ω1.2 qo) (ct (vext V (fL f q q1 q2 q3 q4)) (fnew σ f) (f + o)) := fun o n qo o1 o4 hk hm9 => by
      rw [show ω1.2 qo = ints V n from (b1d (qo, ints V n) hm9).2.2, ct_i hk (by decide +kernel)]
      have e0 : (fnew σ f).1 (f + o) = fun _ => 0 := funext fun j => fn_z o1 o4
      rw [e0]
      exact EQV_rf
    have hG2 : GH (vext V (fL f q q1 q2 q3 q4)) (fnew σ f) H := by
      refine GH_ext hD0 hG' (fun a ha => ?_) (fun y hy => ?_) hnd hnd2 (fun id hi => ?_) hwf
      · have hne : a ≠ q := fun z => hqn (z ▸ ha)
        have h2 := b1b a (List.mem_append_left _ ha)
        refine ⟨h2.1, (h2.2 hne).trans ?_⟩
        show va_up (rwd V σ).2 q _ a = _
        rw [va_up_ne _ _ hne]
      · have hy' : y = (f, q) ∨ y = (f + 1, q1) ∨ y = (f + 2, q2) ∨ y = (f + 3, q3) ∨ y = (f + 4, q4) := by simpa [fL] using hy
        rcases hy' with rfl | rfl | rfl | rfl | rfl
        · refine ⟨(hm _ hy).1, (b1b q b1a).1, hqn, ?_⟩
          show EQV (ω1.2 q) (ct (vext V (fL f q q1 q2 q3 q4)) (fnew σ f) f)
          rw [c1, ct_o (ci := 2) hkf]
          refine EQV_of (congrArg (fun z => Sum.inr (2, z)) ?_)
          show _ = [Value.int ((fnew σ f).1 f 0), .int ((fnew σ f).1 f 1), .int ((fnew σ f).1 f 2), .ref (va (vext V (fL f q q1 q2 q3 q4)) (f + 1)), .int ((fnew σ f).1 f 4), .ref (va (vext V (fL f q q1 q2 q3 q4)) (f + 2)), .ref (va (vext V (fL f q q1 q2 q3 q4)) (f + 3)), .ref (va (vext V (fL f q q1 q2 q3 q4)) (f + 4)), .int ((fnew σ f).1 f 8), va_rf (((fnew σ f).2.2 f 9).map (va (vext V (fL f q q1 q2 q3 q4)))), .int ((fnew σ f).1 f 10), .int ((fnew σ f).1 f 11)]
          have g : ∀ j, (fnew σ f).1 f j = fvals j := fun j => fn_f
          have g9 : (fnew σ f).2.2 f 9 = none := by
            have := fn_r (σ := σ) (f := f) (b := f) (k := 9)
            rw [if_pos rfl] at this
            exact this
          rw [g, g, g, g, g, g, g, g9, v1, v2, v3, v4]
          rfl
        · exact ⟨(hm _ hy).1, (hq' q1 (by simp)).1, (hq' q1 (by simp)).2.1, hz 1 100 q1 (by decide +kernel) (by decide +kernel) (kdF_1 hkf) (by simp)⟩
        · exact ⟨(hm _ hy).1, (hq' q2 (by simp)).1, (hq' q2 (by simp)).2.1, hz 2 10 q2 (by decide +kernel) (by decide +kernel) (kdF_2 hkf) (by simp)⟩
        · exact ⟨(hm _ hy).1, (hq' q3 (by simp)).1, (hq' q3 (by simp)).2.1, hz 3 10 q3 (by decide +kernel) (by decide +kernel) (kdF_3' hkf (by omega)) (by simp)⟩
        · exact ⟨(hm _ hy).1, (hq' q4 (by simp)).1, (hq' q4 (by simp)).2.1, hz 4 10 q4 (by decide +kernel) (by decide +kernel) (kdF_4 hkf) (by simp)⟩
      · have hne : ∀ o, o < 5 → id ≠ f + o := fun o ho z => hfr o ho (z ▸ hi)
        have hnn : ¬ (f ≤ id ∧ id ≤ f + 4) := fun z => by
          have := hne (id - f) (by omega)
          omega
        have e1 : (fnew σ f).1 id = σ.1 id := funext fun j => fn_i hnn
        have e3 : (fnew σ f).2.2 id = σ.2.2 id := funext fun j => by
          have := fn_r (σ := σ) (f := f) (b := id) (k := j)
          rw [if_neg (by omega)] at this
          exact this
        exact ct_ext (V := V) (V' := vext V (fL f q q1 q2 q3 q4)) (σ := σ) (σ' := fnew σ f) x hw rfl (fun j hj => (hvr.2.1 j hj).2) hi e1 rfl e3
    have k5 := h q q1 q2 q3 q4 hvr hwf ls H locs (by
      show lv_has ls nL (lv.map (fun z => (z.1, cv (vext V (fL f q q1 q2 q3 q4)) z.2)))
      rw [lmap_vr hvr hlv]; exact hl) hG2 hS'
    have e2 : (Value.ref f :: st).map (cv (vext V (fL f q q1 q2 q3 q4))) = Value.ref q :: st.map (cv V) := by
      rw [List.map_cons, map_vr hvr hsv]
      show Value.ref (va (vext V (fL f q q1 q2 q3 q4)) f) :: _ = _
      rw [show va (vext V (fL f q q1 q2 q3 q4)) f = q from hva (f, q) (by simp [fL])]
    have k5 : W p l e R s m args below meth c H locs (kn.1 + 5) (kn.2 + 142) Q (F0 m (pc + 7) ls ((Value.ref f :: st).map (cv (vext V (fL f q q1 q2 q3 q4))))) := k5
    rw [e2] at k5
    exact k5
  exact K ls H locs hl hGR hS
end RulesF

theorem fa_X11_field_34 : FA RX11 wsX11_field 34 11 5 "NineMowers" := by
  show _ ∧ _ ∧ _ ∧ _
  exact ⟨by decide +kernel, fun _ h => List.mem_cons_of_mem _ (List.mem_append_left _ (List.mem_append_left _ (List.mem_append_right _ h))), List.mem_of_getElem? (i := 1) rfl, Or.inl rfl⟩
theorem fa_X11_field_30 : FA RX11 wsX11_field 30 11 4 "NineMowers" := by
  show _ ∧ _ ∧ _ ∧ _
  exact ⟨by decide +kernel, fun _ h => List.mem_cons_of_mem _ (List.mem_append_left _ (List.mem_append_left _ (List.mem_append_right _ h))), List.mem_of_getElem? (i := 2) rfl, Or.inl rfl⟩
theorem fa_X11_field_38 : FA RX11 wsX11_field 38 11 6 "NineMowers" := by
  show _ ∧ _ ∧ _ ∧ _
  exact ⟨by decide +kernel, fun _ h => List.mem_cons_of_mem _ (List.mem_append_left _ (List.mem_append_left _ (List.mem_append_right _ h))), List.mem_of_getElem? (i := 6) rfl, Or.inl rfl⟩
theorem fa_X11_field_42 : FA RX11 wsX11_field 42 11 7 "NineMowers" := by
  show _ ∧ _ ∧ _ ∧ _
  exact ⟨by decide +kernel, fun _ h => List.mem_cons_of_mem _ (List.mem_append_left _ (List.mem_append_left _ (List.mem_append_right _ h))), List.mem_of_getElem? (i := 7) rfl, Or.inl rfl⟩
theorem fa_X11_field_12 : FA RX11 wsX11_field 12 11 0 "NineMowers" := by
  show _ ∧ _ ∧ _ ∧ _
  exact ⟨by decide +kernel, fun _ h => List.mem_cons_of_mem _ (List.mem_append_left _ (List.mem_append_left _ (List.mem_append_right _ h))), List.mem_of_getElem? (i := 8) rfl, Or.inl rfl⟩
theorem pa_X11_field_42 : PA RX11 wsX11_field 42 11 7 "NineMowers" .int := by
  show _ ∧ _ ∧ _ ∧ _ ∧ _ ∧ _ ∧ _ ∧ _
  exact ⟨by decide +kernel, fun _ h => List.mem_cons_of_mem _ (List.mem_append_left _ (List.mem_append_left _ (List.mem_append_right _ h))), List.mem_of_getElem? (i := 7) rfl, rfl, rfl, by decide +kernel, ⟨tyX11, tyX11_ok⟩, nmX11⟩
theorem pa_X11_field_34 : PA RX11 wsX11_field 34 11 5 "NineMowers" .int := by
  show _ ∧ _ ∧ _ ∧ _ ∧ _ ∧ _ ∧ _ ∧ _
  exact ⟨by decide +kernel, fun _ h => List.mem_cons_of_mem _ (List.mem_append_left _ (List.mem_append_left _ (List.mem_append_right _ h))), List.mem_of_getElem? (i := 1) rfl, rfl, rfl, by decide +kernel, ⟨tyX11, tyX11_ok⟩, nmX11⟩
theorem pa_X11_field_71 : PA RX11 wsX11_field 71 1 10 "NineMowers$Course" (.object "NineMowers$Field") := by
  show _ ∧ _ ∧ _ ∧ _ ∧ _ ∧ _ ∧ _ ∧ _
  exact ⟨by decide +kernel, fun _ h => List.mem_cons_of_mem _ (List.mem_append_right _ h), List.mem_of_getElem? (i := 9) rfl, rfl, rfl, by decide +kernel, ⟨tyX1, tyX1_ok⟩, nmX1⟩
theorem kin_X11_field : KIN wsX11_field (rmr 24 5 142) yX2_init wsX2_init (rmr 1 4 130) 0 := ⟨_, _, _, gX11_field_X2_init_n70, rfl, (List.mem_of_getElem? (i := 5) rfl), (List.mem_of_getElem? (i := 10) rfl), rfl, by decide +kernel, Nat.le_of_ble_eq_true rfl, Nat.le_of_ble_eq_true rfl⟩
theorem kv_X11_field_reads : KV RX11 wsX11_field (rmr 24 5 142) 157 RX2 yX2_reads wsX2_reads (rmz 22) 2 := ⟨_, _, _, _, gX11_field_X2_reads, rfl, by decide +kernel, by decide +kernel⟩
theorem kv_X11_field_fault : KV RX11 wsX11_field (rmr 24 5 142) 161 RX2 yX2_fault wsX2_fault (rmz 0) 0 := ⟨_, _, _, _, gX11_field_X2_fault, rfl, by decide +kernel, by decide +kernel⟩
theorem ws2_X11_field : ∀ w ∈ u_ws RX2 TX2 12, w ∈ wsX11_field := fun _ h => List.mem_cons_of_mem _ (List.mem_append_left _ (List.mem_append_right _ h))
theorem cl_X11_field : Cond.classLink RX11 28 RX2 ∈ wsX11_field := (List.mem_of_getElem? (i := 3) rfl)
theorem il_X11_field : Cond.instantiable RX2 12 ∈ wsX11_field := (List.mem_of_getElem? (i := 4) rfl)
theorem nl_X11_field : Cond.initialized RX2 ∈ wsX11_field := (List.mem_of_getElem? (i := 5) rfl)
/-- rows of fields are there only where a field stands -/
noncomputable def FI (V : Vx) (σ : Sg) : Prop := ∀ k, k < 6 → gr σ 49 k = none → ∀ r, r < 5 → 1000 + 5 * k + r ∉ ids V
theorem lim_0_5 : lim 0 5 = some (0, 6) := rfl
theorem lim_0_7 : lim 0 7 = some (0, 100) := rfl
noncomputable abbrev SFd : Nat → Prop := fun id => (69 ≤ id ∧ id < 74) ∨ (1000 ≤ id ∧ id < 2000)
noncomputable abbrev FFd : Nat → Nat → Prop := fun id k => (id = 0 ∧ (k = 5 ∨ k = 7)) ∨ (id = 1 ∧ k = 10) ∨ id = 49
noncomputable def K_X11_field (l : Launch) (V : Vx) (σ : Sg) (Qk : Int32 → Vx → Sg → Prop) : Prop := KaN l V yX11_field wsX11_field (rmr 24 5 142) 5 142 [.ref 0] σ (QIW V Qk)
/-! what holds between two rounds -/
noncomputable def IVX (V : Vx) (σ : Sg) : Prop := XI V σ ∧ NN σ 1 ∧ NN σ 17 ∧ (gi σ 1 3).toInt = (gi σ 1 1).toInt ∧ (gi σ 17 3).toInt = (gi σ 17 1).toInt ∧ (gi σ 1 9).toInt ≤ 9999 ∧ (gi σ 17 9).toInt ≤ 9999 ∧ (gi σ 9 1).toInt % 3 = 0 ∧ (gi σ 25 1).toInt % 3 = 0 ∧ FI V σ
noncomputable def IVM (σ : Sg) : Prop := MI σ ∧ (gi σ 74 12).toInt < (gi σ 74 11).toInt ∧ (gi σ 74 50).toInt < (gi σ 74 11).toInt ∧ PL σ ∧ PLI σ ∧ (gi σ 74 1).toInt ≤ 9999 ∧ (gi σ 74 52).toInt ≤ 9999
noncomputable def INV (V : Vx) (σ : Sg) : Prop := IVX V σ ∧ IVM σ
/-- the model's cells are left alone -/
noncomputable def MA (σ σ' : Sg) : Prop := ∀ id, 74 ≤ id → id < 1000 → ∀ k, gi σ' id k = gi σ id k
/-- the class's cells are left alone -/
noncomputable def XA (σ σ' : Sg) : Prop := (∀ id, (id < 74 ∨ 1000 ≤ id) → ∀ k, gi σ' id k = gi σ id k) ∧ ∀ id k, gr σ' id k = gr σ id k
theorem MA_fx {S : Nat → Prop} {F : Nat → Nat → Prop} {σ σ' : Sg} (f : FX S F σ σ') (h1 : ∀ id, S id → id < 74 ∨ 1000 ≤ id) (h2 : ∀ id k, F id k → id < 74 ∨ 1000 ≤ id) : MA σ σ' := fun id a b k =>
  FX_i f (fun z => by have := h1 id z; omega) (fun z => by have := h2 id k z; omega)
theorem XA_fr {S F : List Nat} {σ σ' : Sg} (f : Fr S F σ σ') (h : ∀ id ∈ S, 74 ≤ id ∧ id < 1000) : XA σ σ' :=
  ⟨fun id a k => congrFun (f.1 id (fun z => by have := h id z; omega)).1 k, fun id k => by unfold gr; rw [f.2.2]⟩
theorem PL_ag {σ σ' : Sg} (h : MA σ σ') (q : PL σ) : PL σ' := fun m hm => by
  rw [h 74 (by decide +kernel) (by decide +kernel)] at hm
  obtain ⟨k, hk, e⟩ := q m hm
  exact ⟨k, by rw [h 74 (by decide +kernel) (by decide +kernel)]; exact hk, (h 110 (by decide +kernel) (by decide +kernel) k).trans e⟩
theorem PLI_ag {σ σ' : Sg} (h : MA σ σ') (q : PLI σ) : PLI σ' := fun m hm => by
  rw [h 74 (by decide +kernel) (by decide +kernel)] at hm
  obtain ⟨k, hk, e⟩ := q m hm
  exact ⟨k, by rw [h 74 (by decide +kernel) (by decide +kernel)]; exact hk, (h 162 (by decide +kernel) (by decide +kernel) k).trans e⟩
theorem bnd_ag {σ σ' : Sg} (h : MA σ σ') {a n : Nat} {lo hi : Int} (h1 : 74 ≤ a) (h2 : a < 1000) (q : bnd (σ.1 a) n lo hi) : bnd (σ'.1 a) n lo hi := fun j hj => by
  have e : σ'.1 a j = σ.1 a j := h a h1 h2 j
  rw [e]; exact q j hj
theorem MI0_ag {σ σ' : Sg} (h : MA σ σ') (q : MI0 σ) : MI0 σ' := by
  have e : ∀ k, gi σ' 74 k = gi σ 74 k := h 74 (by decide +kernel) (by decide +kernel)
  unfold MI0
  simp only [e]
  exact q
theorem MI1_ag {σ σ' : Sg} (h : MA σ σ') (q : MI1 σ) : MI1 σ' := by
  unfold MI1 at q ⊢
  obtain ⟨q1, q2, q3, q4, q5, q6, q7, q8, q9, q10, q11, q12, q13, q14, q15, q16, q17⟩ := q
  refine ⟨bnd_ag h ?_ ?_ q1, bnd_ag h ?_ ?_ q2, bnd_ag h ?_ ?_ q3, bnd_ag h ?_ ?_ q4, bnd_ag h ?_ ?_ q5, bnd_ag h ?_ ?_ q6, bnd_ag h ?_ ?_ q7, bnd_ag h ?_ ?_ q8, bnd_ag h ?_ ?_ q9, bnd_ag h ?_ ?_ q10, bnd_ag h ?_ ?_ q11, bnd_ag h ?_ ?_ q12, bnd_ag h ?_ ?_ q13, bnd_ag h ?_ ?_ q14, bnd_ag h ?_ ?_ q15, bnd_ag h ?_ ?_ q16, bnd_ag h ?_ ?_ q17⟩ <;> decide
theorem fvL_in : ∀ a ∈ fvL, 74 ≤ a ∧ a < 1000 := by decide +kernel
theorem MI_ag {σ σ' : Sg} (h : MA σ σ') (q : MI σ) : MI σ' :=
  ⟨MI0_ag h q.1, MI1_ag h q.2.1, FV_eq (fun a ha k => h a (fvL_in a ha).1 (fvL_in a ha).2 k) (h 74 (by decide +kernel) (by decide +kernel) _) (h 74 (by decide +kernel) (by decide +kernel) _) (h 74 (by decide +kernel) (by decide +kernel) _) q.2.2⟩
theorem IVM_ag {σ σ' : Sg} (h : MA σ σ') (q : IVM σ) : IVM σ' := by
  obtain ⟨q1, q2, q3, q4, q5, q6, q7⟩ := q
  have e : ∀ k, gi σ' 74 k = gi σ 74 k := h 74 (by decide +kernel) (by decide +kernel)
  refine ⟨MI_ag h q1, ?_, ?_, PL_ag h q4, PLI_ag h q5, ?_, ?_⟩
  · rw [e, e]; exact q2
  · rw [e, e]; exact q3
  · rw [e]; exact q6
  · rw [e]; exact q7
theorem fo_lo {id o : Nat} (h : fo id = some o) : id < 74 ∨ 1000 ≤ id := by
  by_cases h3 : id < 74
  · exact Or.inl h3
  · by_cases h4 : id < 1000
    · exfalso
      have h1 : ¬ id < 69 := by omega
      unfold fo at h
      rw [if_neg h1, if_neg h3, if_pos h4] at h
      cases h
    · exact Or.inr (by omega)
theorem lim_out {id k : Nat} {lo hi : Int} (h : lim id k = some (lo, hi)) : id < 74 ∨ 1000 ≤ id := by
  by_cases h1 : id < 69
  · exact Or.inl (by omega)
  · unfold lim at h
    rw [if_neg h1] at h
    cases hf : fo id with
    | some o => exact fo_lo hf
    | none =>
      rw [hf] at h
      by_cases h2 : 2000 ≤ id
      · exact Or.inr (by omega)
      · have h : (if 2000 ≤ id then (if k = 0 then some ((0 : Int), (6 : Int)) else if k = 1 then some (0, 5) else if k = 2 then some (0, 9) else none) else none) = some (lo, hi) := h
        rw [if_neg h2] at h
        cases h
theorem XI_xa {V : Vx} {σ σ' : Sg} (h : XA σ σ') (x : XI V σ) : XI V σ' := by
  obtain ⟨x1, x2, x3, x4⟩ := x
  refine ⟨fun id k lo hi hl => ?_, fun c hc => ⟨?_, fun k μ hμ => ?_⟩, fun k f hf => ?_, fun f hf => ?_⟩
  · rw [h.1 id (lim_out hl)]; exact x1 id k lo hi hl
  · rw [h.2]; exact (x2 c hc).1
  · rw [h.2] at hμ; exact (x2 c hc).2 k μ hμ
  · rw [h.2] at hf; exact x3 k f hf
  · rw [h.2]; exact x4 f hf
theorem NN_xa {σ σ' : Sg} {c : Nat} (h : XA σ σ') (hc : c < 72) (q : NN σ c) : NN σ' c := by
  refine ⟨fun p hp => ?_, fun m hm => ?_⟩
  · rw [h.1 c (by omega)] at hp ⊢
    rw [h.1 (c + 2) (by omega)]
    exact q.1 p hp
  · rw [h.1 c (by omega)] at hm
    rw [h.2]
    exact q.2 m hm
theorem IVX_xa {V : Vx} {σ σ' : Sg} (h : XA σ σ') (q : IVX V σ) : IVX V σ' := by
  obtain ⟨q1, q2, q3, q4, q5, q6, q7, q8, q9, q10⟩ := q
  refine ⟨XI_xa h q1, NN_xa h (by decide +kernel) q2, NN_xa h (by decide +kernel) q3, ?_, ?_, ?_, ?_, ?_, ?_, fun k hk hn => q10 k hk ?_⟩
  · rw [h.1 1 (by decide +kernel), h.1 1 (by decide +kernel)]; exact q4
  · rw [h.1 17 (by decide +kernel), h.1 17 (by decide +kernel)]; exact q5
  · rw [h.1 1 (by decide +kernel)]; exact q6
  · rw [h.1 17 (by decide +kernel)]; exact q7
  · rw [h.1 9 (by decide +kernel)]; exact q8
  · rw [h.1 25 (by decide +kernel)]; exact q9
  · rw [← h.2]; exact hn
/-- the cells that the invariant does not speak of, model aside -/
noncomputable def Sf (id : Nat) : Prop := id = 0 ∨ (4 ≤ id ∧ id ≤ 8) ∨ (10 ≤ id ∧ id ≤ 16) ∨ (20 ≤ id ∧ id ≤ 24) ∨ (26 ≤ id ∧ id ≤ 48) ∨ (50 ≤ id ∧ id ≤ 73) ∨ 1000 ≤ id
noncomputable def Ff (id k : Nat) : Prop := (id = 1 ∨ id = 17) ∧ k ≠ 1 ∧ k ≠ 3 ∧ k ≠ 9
theorem nSf {id : Nat} (h : id = 1 ∨ id = 2 ∨ id = 3 ∨ id = 9 ∨ id = 17 ∨ id = 18 ∨ id = 19 ∨ id = 25 ∨ id = 49) : ¬ Sf id := by unfold Sf; omega
theorem nFf {id k : Nat} (h : (id ≠ 1 ∧ id ≠ 17) ∨ k = 1 ∨ k = 3 ∨ k = 9) : ¬ Ff id k := by unfold Ff; omega
theorem IVX_fx {V V' : Vx} {σ σ' : Sg} (f : FX Sf Ff σ σ') (x : XI V' σ') (i : FI V' σ') (q : IVX V σ) : IVX V' σ' := by
  obtain ⟨q1, q2, q3, q4, q5, q6, q7, q8, q9, q10⟩ := q
  refine ⟨x, NN_fx q2 f (nSf (by decide +kernel)) (nSf (by decide +kernel)) (nSf (by decide +kernel)) (nFf (by decide +kernel)) (nFf (by decide +kernel)) (fun k => nFf (Or.inl (by decide +kernel))) (fun k => nFf (Or.inl (by decide +kernel))), NN_fx q3 f (nSf (by decide +kernel)) (nSf (by decide +kernel)) (nSf (by decide +kernel)) (nFf (by decide +kernel)) (nFf (by decide +kernel)) (fun k => nFf (Or.inl (by decide +kernel))) (fun k => nFf (Or.inl (by decide +kernel))), ?_, ?_, ?_, ?_, ?_, ?_, i⟩
  · rw [FX_i f (nSf (by decide +kernel)) (nFf (by decide +kernel)), FX_i f (nSf (by decide +kernel)) (nFf (by decide +kernel))]; exact q4
  · rw [FX_i f (nSf (by decide +kernel)) (nFf (by decide +kernel)), FX_i f (nSf (by decide +kernel)) (nFf (by decide +kernel))]; exact q5
  · rw [FX_i f (nSf (by decide +kernel)) (nFf (by decide +kernel))]; exact q6
  · rw [FX_i f (nSf (by decide +kernel)) (nFf (by decide +kernel))]; exact q7
  · rw [FX_i f (nSf (by decide +kernel)) (nFf (by decide +kernel))]; exact q8
  · rw [FX_i f (nSf (by decide +kernel)) (nFf (by decide +kernel))]; exact q9
theorem FI_fx {V : Vx} {S : Nat → Prop} {F : Nat → Nat → Prop} {σ σ' : Sg} (f : FX S F σ σ') (h1 : ¬ S 49) (h2 : ∀ k, ¬ F 49 k) (q : FI V σ) : FI V σ' := fun k hk hn => q k hk (by rw [← FX_r f h1 (h2 k)]; exact hn)
theorem Sf_lo {id : Nat} (h : Sf id) : id < 74 ∨ 1000 ≤ id := by unfold Sf at h; omega
theorem Ff_lo {id k : Nat} (h : Ff id k) : id < 74 ∨ 1000 ≤ id := by unfold Ff at h; omega
theorem INV_fx {V : Vx} {σ σ' : Sg} (f : FX Sf Ff σ σ') (x : XI V σ') (q : INV V σ) : INV V σ' :=
  ⟨IVX_fx f x (FI_fx f (nSf (by decide +kernel)) (fun k => nFf (Or.inl (by decide +kernel))) q.1.2.2.2.2.2.2.2.2.2) q.1, IVM_ag (MA_fx f (fun _ => Sf_lo) (fun _ _ => Ff_lo)) q.2⟩
theorem INV_m {V : Vx} {S F : List Nat} {σ σ' : Sg} (f : Fr S F σ σ') (h : ∀ id ∈ S, 74 ≤ id ∧ id < 1000) (q : INV V σ) (m : IVM σ') : INV V σ' := ⟨IVX_xa (XA_fr f h) q.1, m⟩
/-! plan's and book's answers: by the argument, what stands, and the highest that may come -/
noncomputable def PBA (r a n n2 : Int32) (hi top : Int) : Prop := (a.toInt = -1 → r.toInt = 0 ∧ n2.toInt = 0) ∧ ((a.toInt < -1 ∨ hi < a.toInt) → a.toInt ≠ -1 → r.toInt = -1 ∧ n2.toInt = n.toInt) ∧ (0 ≤ a.toInt → a.toInt ≤ hi → (top ≤ n.toInt → r.toInt = -4 ∧ n2.toInt = n.toInt) ∧ (n.toInt < top → r.toInt = n.toInt + 1 ∧ n2.toInt = n.toInt + 1))
theorem PBA_0 {a n n2 : Int32} {hi top : Int} (h : a.toInt = -1 ∧ n2.toInt = 0) : PBA 0 a n n2 hi top := ⟨fun _ => ⟨rfl, h.2⟩, fun _ q => absurd h.1 q, fun _ => by omega⟩
theorem PBA_1 {a n n2 : Int32} {hi top : Int} (h : (a.toInt < -1 ∨ hi < a.toInt) ∧ a.toInt ≠ -1 ∧ n2.toInt = n.toInt) : PBA (-1) a n n2 hi top := ⟨fun q => absurd q h.2.1, fun _ _ => ⟨rfl, h.2.2⟩, fun _ _ => by omega⟩
theorem PBA_2 {a n n2 : Int32} {hi top : Int} (h : 0 ≤ a.toInt ∧ a.toInt ≤ hi ∧ top ≤ n.toInt ∧ n2.toInt = n.toInt) : PBA (-4) a n n2 hi top := ⟨fun q => by omega, fun q _ => by omega, fun _ _ => ⟨fun _ => ⟨rfl, h.2.2.2⟩, fun q => by omega⟩⟩
theorem PBA_3 {r a n n2 : Int32} {hi top : Int} (h : 0 ≤ a.toInt ∧ a.toInt ≤ hi ∧ n.toInt < top ∧ n2.toInt = n.toInt + 1 ∧ r.toInt = n2.toInt) : PBA r a n n2 hi top := ⟨fun q => by omega, fun q _ => by omega, fun _ _ => ⟨fun q => by omega, fun _ => by omega⟩⟩
set_option maxRecDepth 100000 in
set_option maxHeartbeats 4000000 in
theorem kt_X11_plan {l : Launch} {V : Vx} {a1 : Int32} {σ0 : Sg} {Qk : Int32 → Sg → Prop} (m0 : XI V σ0) (h9ret : ∀ (r : Int32) (σ' : Sg), XI V σ' → FX (fun id => id = 12) (fun id k => (id = 11 ∧ k = 1)) σ0 σ' → (PBA r a1 (gi σ0 11 1) (gi σ' 11 1) (2) 10) → Qk r σ') : K_X11_plan l V a1 σ0 Qk := by
  refine e_X11_plan (fun M hl hV hN C => ?_)
  subst hl
  subst hV
  have c9 : capI 11 = 10 := rfl
  have n9 : (nl 11 : Int) = 10 := by decide +kernel
  have f0 : FX (fun id => id = 12) (fun id k => (id = 11 ∧ k = 1)) σ0 σ0 := FX_rf
  have t_1 := XI_c1 m0 (id := 1) (k := 1) (lim_C0_1 (Or.inl rfl))
  have t_2 := XI_c1 m0 (id := 11) (k := 1) (lim_C10_1 (Or.inl rfl))
  refine s_X11_plan_0 C hN  ?_
  refine ⟨?_, ?_⟩
  · intro q_3
    have w_4 := Int32.toInt_lt a1
    have w_5 := Int32.le_toInt a1
    have b_6 : ¬ a1.toInt = (-1) := fun h9 => q_3 (Int32.toInt_inj.mp h9)
    refine ⟨?_, ?_⟩
    · intro q_7
      have b_8 : a1.toInt < 0 := Int32.lt_iff_toInt_lt.mp q_7
      have z_9 : (-1 : Int32).toInt = -1 := rfl
      exact h9ret (-1 : Int32) σ0 m0 f0 (by first | assumption | exact PBA_0 (by omega) | exact PBA_1 (by omega) | exact PBA_2 (by omega) | exact PBA_3 (by omega))
    · intro q_7
      have b_10 : ¬ a1.toInt < 0 := fun h9 => q_7 (Int32.lt_iff_toInt_lt.mpr h9)
      refine ⟨?_, ?_⟩
      · intro q_11
        have b_12 : a1.toInt ≤ 2 := Int32.le_iff_toInt_le.mp q_11
        refine k_X5_isFull (isN_C10 (Or.inl rfl)) m0   (fun r5 σ4 mσ4 cσ4 plσ4 phσ4 (pσ4_0 : (r5.toInt = 1 ∧ (nl 11 : Int) ≤ (gi σ0 11 1).toInt) ∨ (r5.toInt = 0 ∧ (gi σ0 11 1).toInt < (nl 11 : Int))) => ?_)
        obtain rfl := FX_nil cσ4
        refine ⟨?_, ?_⟩
        · intro q_13
          have b_14 : r5.toInt = 0 := congrArg Int32.toInt q_13
          refine k_X5_comes (isN_C10 (Or.inl rfl)) m0  (by omega) (okNum_11) (fun σ7 mσ7 cσ7 (pσ7_0 : (gi σ7 11 1).toInt = (gi σ0 11 1).toInt + 1) => ?_)
          have fσ7 : FX (fun id => id = 12) (fun id k => (id = 11 ∧ k = 1)) σ0 σ7 := FX_tr f0 cσ7 (fun x (h9 : x = 12) => (show x = 12 from h9)) (fun x k (h9 : (x = 11 ∧ k = 1)) => (show (x = 12) ∨ ((x = 11 ∧ k = 1)) from Or.inr (show (x = 11 ∧ k = 1) from h9)))
          have k_15 : (gi σ7 1 1).toInt = (gi σ0 1 1).toInt := congrArg Int32.toInt (FX_i cσ7 (show ¬ (1 = 12) from by omega) (show ¬ ((1 = 11 ∧ 1 = 1)) from by omega))
          have t_16 := XI_c1 mσ7 (id := 11) (k := 1) (lim_C10_1 (Or.inl rfl))
          exact h9ret (gi σ7 11 1) σ7 mσ7 fσ7 (by first | assumption | exact PBA_0 (by omega) | exact PBA_1 (by omega) | exact PBA_2 (by omega) | exact PBA_3 (by omega))
        · intro q_13
          have b_17 : ¬ r5.toInt = 0 := fun h9 => q_13 (Int32.toInt_inj.mp h9)
          have z_18 : (-4 : Int32).toInt = -4 := rfl
          exact h9ret (-4 : Int32) σ0 m0 f0 (by first | assumption | exact PBA_0 (by omega) | exact PBA_1 (by omega) | exact PBA_2 (by omega) | exact PBA_3 (by omega))
      · intro q_11
        have b_19 : ¬ a1.toInt ≤ 2 := fun h9 => q_11 (Int32.le_iff_toInt_le.mpr h9)
        have z_20 : (-1 : Int32).toInt = -1 := rfl
        exact h9ret (-1 : Int32) σ0 m0 f0 (by first | assumption | exact PBA_0 (by omega) | exact PBA_1 (by omega) | exact PBA_2 (by omega) | exact PBA_3 (by omega))
  · intro q_3
    have w_21 := Int32.toInt_lt a1
    have w_22 := Int32.le_toInt a1
    have b_23 : a1.toInt = (-1) := congrArg Int32.toInt q_3
    intro σ8 eσ8
    have z_24 : (0 : Int32).toInt = 0 := rfl
    have mσ8 : XI (mV M) σ8 := by rw [eσ8]; exact XIs_b m0 (lim_C10_1 (Or.inl rfl)) (by omega) (by omega)
    have fσ8 : FX (fun id => id = 12) (fun id k => (id = 11 ∧ k = 1)) σ0 σ8 := by rw [eσ8]; exact FX_si f0 (Or.inr (show (11 = 11 ∧ 1 = 1) from ⟨rfl, rfl⟩))
    have k_25 : (gi σ8 1 1).toInt = (gi σ0 1 1).toInt := by rw [eσ8]; exact congrArg Int32.toInt (gi_si_ne (Or.inl (by omega)))
    have k_26 : (gi σ8 11 1).toInt = 0 := by rw [eσ8]; exact congrArg Int32.toInt gi_si_eq
    exact h9ret (0 : Int32) σ8 mσ8 fσ8 (by first | assumption | exact PBA_0 (by omega) | exact PBA_1 (by omega) | exact PBA_2 (by omega) | exact PBA_3 (by omega))
set_option maxRecDepth 100000 in
set_option maxHeartbeats 4000000 in
theorem kt_X11_book {l : Launch} {V : Vx} {a1 : Int32} {σ0 : Sg} {Qk : Int32 → Sg → Prop} (m0 : XI V σ0) (h9ret : ∀ (r : Int32) (σ' : Sg), XI V σ' → FX (fun id => id = 14) (fun id k => (id = 13 ∧ k = 1)) σ0 σ' → (PBA r a1 (gi σ0 13 1) (gi σ' 13 1) ((gi σ0 1 1).toInt - 1) 8) → Qk r σ') : K_X11_book l V a1 σ0 Qk := by
  refine e_X11_book (fun M hl hV hN C => ?_)
  subst hl
  subst hV
  have c9 : capI 13 = 8 := rfl
  have n9 : (nl 13 : Int) = 8 := by decide +kernel
  have f0 : FX (fun id => id = 14) (fun id k => (id = 13 ∧ k = 1)) σ0 σ0 := FX_rf
  have t_1 := XI_c1 m0 (id := 1) (k := 1) (lim_C0_1 (Or.inl rfl))
  have t_2 := XI_c1 m0 (id := 13) (k := 1) (lim_C12_1 (Or.inl rfl))
  refine s_X11_book_0 C hN  ?_
  refine ⟨?_, ?_⟩
  · intro q_3
    have w_4 := Int32.toInt_lt a1
    have w_5 := Int32.le_toInt a1
    have b_6 : ¬ a1.toInt = (-1) := fun h9 => q_3 (Int32.toInt_inj.mp h9)
    refine k_X11_isMower  m0   (fun r3 σ2 mσ2 cσ2 plσ2 phσ2 (pσ2_0 : (r3.toInt = 1 ∧ 0 ≤ a1.toInt ∧ a1.toInt < (gi σ0 1 1).toInt) ∨ (r3.toInt = 0 ∧ (a1.toInt < 0 ∨ (gi σ0 1 1).toInt ≤ a1.toInt))) => ?_)
    obtain rfl := FX_nil cσ2
    refine ⟨?_, ?_⟩
    · intro q_7
      have b_8 : ¬ r3.toInt = 0 := fun h9 => q_7 (Int32.toInt_inj.mp h9)
      refine k_X5_isFull (isN_C12 (Or.inl rfl)) m0   (fun r6 σ5 mσ5 cσ5 plσ5 phσ5 (pσ5_0 : (r6.toInt = 1 ∧ (nl 13 : Int) ≤ (gi σ0 13 1).toInt) ∨ (r6.toInt = 0 ∧ (gi σ0 13 1).toInt < (nl 13 : Int))) => ?_)
      obtain rfl := FX_nil cσ5
      refine ⟨?_, ?_⟩
      · intro q_9
        have b_10 : r6.toInt = 0 := congrArg Int32.toInt q_9
        refine k_X5_comes (isN_C12 (Or.inl rfl)) m0  (by omega) (okNum_b (by omega) (by omega)) (fun σ8 mσ8 cσ8 (pσ8_0 : (gi σ8 13 1).toInt = (gi σ0 13 1).toInt + 1) => ?_)
        have fσ8 : FX (fun id => id = 14) (fun id k => (id = 13 ∧ k = 1)) σ0 σ8 := FX_tr f0 cσ8 (fun x (h9 : x = 14) => (show x = 14 from h9)) (fun x k (h9 : (x = 13 ∧ k = 1)) => (show (x = 14) ∨ ((x = 13 ∧ k = 1)) from Or.inr (show (x = 13 ∧ k = 1) from h9)))
        have k_11 : (gi σ8 1 1).toInt = (gi σ0 1 1).toInt := congrArg Int32.toInt (FX_i cσ8 (show ¬ (1 = 14) from by omega) (show ¬ ((1 = 13 ∧ 1 = 1)) from by omega))
        have t_12 := XI_c1 mσ8 (id := 13) (k := 1) (lim_C12_1 (Or.inl rfl))
        exact h9ret (gi σ8 13 1) σ8 mσ8 fσ8 (by first | assumption | exact PBA_0 (by omega) | exact PBA_1 (by omega) | exact PBA_2 (by omega) | exact PBA_3 (by omega))
      · intro q_9
        have b_13 : ¬ r6.toInt = 0 := fun h9 => q_9 (Int32.toInt_inj.mp h9)
        have z_14 : (-4 : Int32).toInt = -4 := rfl
        exact h9ret (-4 : Int32) σ0 m0 f0 (by first | assumption | exact PBA_0 (by omega) | exact PBA_1 (by omega) | exact PBA_2 (by omega) | exact PBA_3 (by omega))
    · intro q_7
      have b_15 : r3.toInt = 0 := congrArg Int32.toInt q_7
      have z_16 : (-1 : Int32).toInt = -1 := rfl
      exact h9ret (-1 : Int32) σ0 m0 f0 (by first | assumption | exact PBA_0 (by omega) | exact PBA_1 (by omega) | exact PBA_2 (by omega) | exact PBA_3 (by omega))
  · intro q_3
    have w_17 := Int32.toInt_lt a1
    have w_18 := Int32.le_toInt a1
    have b_19 : a1.toInt = (-1) := congrArg Int32.toInt q_3
    intro σ9 eσ9
    have z_20 : (0 : Int32).toInt = 0 := rfl
    have mσ9 : XI (mV M) σ9 := by rw [eσ9]; exact XIs_b m0 (lim_C12_1 (Or.inl rfl)) (by omega) (by omega)
    have fσ9 : FX (fun id => id = 14) (fun id k => (id = 13 ∧ k = 1)) σ0 σ9 := by rw [eσ9]; exact FX_si f0 (Or.inr (show (13 = 13 ∧ 1 = 1) from ⟨rfl, rfl⟩))
    have k_21 : (gi σ9 1 1).toInt = (gi σ0 1 1).toInt := by rw [eσ9]; exact congrArg Int32.toInt (gi_si_ne (Or.inl (by omega)))
    have k_22 : (gi σ9 13 1).toInt = 0 := by rw [eσ9]; exact congrArg Int32.toInt gi_si_eq
    exact h9ret (0 : Int32) σ9 mσ9 fσ9 (by first | assumption | exact PBA_0 (by omega) | exact PBA_1 (by omega) | exact PBA_2 (by omega) | exact PBA_3 (by omega))
set_option maxRecDepth 100000 in
set_option maxHeartbeats 4000000 in
theorem kt_X12_plan {l : Launch} {V : Vx} {a1 : Int32} {σ0 : Sg} {Qk : Int32 → Sg → Prop} (m0 : MI σ0) (h9ret : ∀ (r : Int32) (σ' : Sg), MI σ' → Fr [74, 147] [45] σ0 σ' → (PBA r a1 (gi σ0 74 45) (gi σ' 74 45) (2) 10) → Qk r σ') : K_X12_plan l V a1 σ0 Qk := by
  refine e_X12_plan (fun M hl hV hN C => ?_)
  subst hl
  subst hV
  have f0 : Fr [74, 147] [45] σ0 σ0 := Fr_rf
  refine s_X12_plan_0 C hN ?_
  refine ⟨?_, ?_⟩
  · intro q_1
    have w_2 := Int32.toInt_lt a1
    have w_3 := Int32.le_toInt a1
    have b_4 : ¬ a1.toInt = (-1) := fun h9 => q_1 (Int32.toInt_inj.mp h9)
    refine k_X12_in m0  (fun r3 σ2 mσ2 cσ2 plσ2 phσ2 (pσ2_0 : (r3.toInt = 1 ∧ (0 : Int) ≤ a1.toInt ∧ a1.toInt ≤ (2 : Int)) ∨ (r3.toInt = 0 ∧ (a1.toInt < (0 : Int) ∨ (2 : Int) < a1.toInt))) => ?_)
    obtain rfl := Fr_nil cσ2
    refine ⟨?_, ?_⟩
    · intro q_5
      have b_6 : ¬ r3.toInt = 0 := fun h9 => q_5 (Int32.toInt_inj.mp h9)
      refine ⟨?_, ?_⟩
      · intro q_7
        have t_8 := MI_f45 m0
        have b_9 : ¬ (gi σ0 74 45).toInt = 10 := fun h9 => q_7 (Int32.toInt_inj.mp h9)
        have hv_10 : vp_in (gi σ0 74 45) 10 := vp_in_iff.mpr ⟨by omega, by omega⟩
        refine ⟨hv_10, ?_⟩
        intro σ7 eσ7
        have mσ7 : MI σ7 := by rw [eσ7]; exact MIs_au (a := 147) m0 rfl rfl
        have fσ7 : Fr [74, 147] [45] σ0 σ7 := by rw [eσ7]; exact Fr_si f0 (by decide +kernel) (fun h9 => absurd h9 (by decide +kernel))
        have k_11 : (gi σ7 74 45).toInt = (gi σ0 74 45).toInt := gk_l eσ7 rfl
        intro σ8 eσ8
        have t_12 := MI_f45 mσ7
        have t_13 : ((gi σ7 74 45) + (1 : Int32)).toInt = (gi σ7 74 45).toInt + 1 := i_add (x := (gi σ7 74 45)) (y := (1 : Int32)) (by show (_ : Int) ≤ (gi σ7 74 45).toInt + 1; omega) (by show (gi σ7 74 45).toInt + 1 ≤ (_ : Int); omega)
        have mσ8 : MI σ8 := by rw [eσ8]; exact MIs_f45 mσ7 (by omega) (by omega)
        have fσ8 : Fr [74, 147] [45] σ0 σ8 := by rw [eσ8]; exact Fr_si fσ7 (by decide +kernel) (fun _ => by decide +kernel)
        have k_14 : (gi σ8 74 45).toInt = ((gi σ7 74 45) + (1 : Int32)).toInt := by rw [eσ8]; exact congrArg Int32.toInt gi_si_eq
        have t_15 := MI_f45 mσ8
        exact h9ret (gi σ8 74 45) σ8 mσ8 fσ8 (by first | assumption | exact PBA_0 (by omega) | exact PBA_1 (by omega) | exact PBA_2 (by omega) | exact PBA_3 (by omega))
      · intro q_7
        have t_16 := MI_f45 m0
        have b_17 : (gi σ0 74 45).toInt = 10 := congrArg Int32.toInt q_7
        have z_18 : (-4 : Int32).toInt = -4 := rfl
        exact h9ret (-4 : Int32) σ0 m0 f0 (by first | assumption | exact PBA_0 (by omega) | exact PBA_1 (by omega) | exact PBA_2 (by omega) | exact PBA_3 (by omega))
    · intro q_5
      have b_19 : r3.toInt = 0 := congrArg Int32.toInt q_5
      have z_20 : (-1 : Int32).toInt = -1 := rfl
      exact h9ret (-1 : Int32) σ0 m0 f0 (by first | assumption | exact PBA_0 (by omega) | exact PBA_1 (by omega) | exact PBA_2 (by omega) | exact PBA_3 (by omega))
  · intro q_1
    have w_21 := Int32.toInt_lt a1
    have w_22 := Int32.le_toInt a1
    have b_23 : a1.toInt = (-1) := congrArg Int32.toInt q_1
    intro σ9 eσ9
    have z_24 : (0 : Int32).toInt = 0 := rfl
    have mσ9 : MI σ9 := by rw [eσ9]; exact MIs_f45 m0 (by omega) (by omega)
    have fσ9 : Fr [74, 147] [45] σ0 σ9 := by rw [eσ9]; exact Fr_si f0 (by decide +kernel) (fun _ => by decide +kernel)
    have k_25 : (gi σ9 74 45).toInt = 0 := by rw [eσ9]; exact congrArg Int32.toInt gi_si_eq
    exact h9ret (0 : Int32) σ9 mσ9 fσ9 (by first | assumption | exact PBA_0 (by omega) | exact PBA_1 (by omega) | exact PBA_2 (by omega) | exact PBA_3 (by omega))
set_option maxRecDepth 100000 in
set_option maxHeartbeats 4000000 in
theorem kt_X12_book {l : Launch} {V : Vx} {a1 : Int32} {σ0 : Sg} {Qk : Int32 → Sg → Prop} (m0 : MI σ0) (h9ret : ∀ (r : Int32) (σ' : Sg), MI σ' → Fr [74, 148] [46] σ0 σ' → (PBA r a1 (gi σ0 74 46) (gi σ' 74 46) ((gi σ0 74 0).toInt - 1) 8) → Qk r σ') : K_X12_book l V a1 σ0 Qk := by
  refine e_X12_book (fun M hl hV hN C => ?_)
  subst hl
  subst hV
  have f0 : Fr [74, 148] [46] σ0 σ0 := Fr_rf
  refine s_X12_book_0 C hN ?_
  refine ⟨?_, ?_⟩
  · intro q_1
    have w_2 := Int32.toInt_lt a1
    have w_3 := Int32.le_toInt a1
    have b_4 : ¬ a1.toInt = (-1) := fun h9 => q_1 (Int32.toInt_inj.mp h9)
    refine k_X12_isMower m0  (fun r3 σ2 mσ2 cσ2 plσ2 phσ2 (pσ2_0 : (r3.toInt = 1 ∧ 0 ≤ a1.toInt ∧ a1.toInt < (gi σ0 74 0).toInt) ∨ (r3.toInt = 0 ∧ (a1.toInt < 0 ∨ (gi σ0 74 0).toInt ≤ a1.toInt))) => ?_)
    obtain rfl := Fr_nil cσ2
    have t_5 := MI_f0 m0
    refine ⟨?_, ?_⟩
    · intro q_6
      have b_7 : ¬ r3.toInt = 0 := fun h9 => q_6 (Int32.toInt_inj.mp h9)
      refine ⟨?_, ?_⟩
      · intro q_8
        have t_9 := MI_f46 m0
        have b_10 : ¬ (gi σ0 74 46).toInt = 8 := fun h9 => q_8 (Int32.toInt_inj.mp h9)
        have hv_11 : vp_in (gi σ0 74 46) 8 := vp_in_iff.mpr ⟨by omega, by omega⟩
        refine ⟨hv_11, ?_⟩
        intro σ7 eσ7
        have mσ7 : MI σ7 := by rw [eσ7]; exact MIs_au (a := 148) m0 rfl rfl
        have fσ7 : Fr [74, 148] [46] σ0 σ7 := by rw [eσ7]; exact Fr_si f0 (by decide +kernel) (fun h9 => absurd h9 (by decide +kernel))
        have k_12 : (gi σ7 74 0).toInt = (gi σ0 74 0).toInt := gk_l eσ7 rfl
        have k_13 : (gi σ7 74 46).toInt = (gi σ0 74 46).toInt := gk_l eσ7 rfl
        intro σ8 eσ8
        have t_14 := MI_f46 mσ7
        have t_15 : ((gi σ7 74 46) + (1 : Int32)).toInt = (gi σ7 74 46).toInt + 1 := i_add (x := (gi σ7 74 46)) (y := (1 : Int32)) (by show (_ : Int) ≤ (gi σ7 74 46).toInt + 1; omega) (by show (gi σ7 74 46).toInt + 1 ≤ (_ : Int); omega)
        have mσ8 : MI σ8 := by rw [eσ8]; exact MIs_f46 mσ7 (by omega) (by omega)
        have fσ8 : Fr [74, 148] [46] σ0 σ8 := by rw [eσ8]; exact Fr_si fσ7 (by decide +kernel) (fun _ => by decide +kernel)
        have k_16 : (gi σ8 74 0).toInt = (gi σ7 74 0).toInt := gk_r eσ8 rfl
        have k_17 : (gi σ8 74 46).toInt = ((gi σ7 74 46) + (1 : Int32)).toInt := by rw [eσ8]; exact congrArg Int32.toInt gi_si_eq
        have t_18 := MI_f46 mσ8
        exact h9ret (gi σ8 74 46) σ8 mσ8 fσ8 (by first | assumption | exact PBA_0 (by omega) | exact PBA_1 (by omega) | exact PBA_2 (by omega) | exact PBA_3 (by omega))
      · intro q_8
        have t_19 := MI_f46 m0
        have b_20 : (gi σ0 74 46).toInt = 8 := congrArg Int32.toInt q_8
        have z_21 : (-4 : Int32).toInt = -4 := rfl
        exact h9ret (-4 : Int32) σ0 m0 f0 (by first | assumption | exact PBA_0 (by omega) | exact PBA_1 (by omega) | exact PBA_2 (by omega) | exact PBA_3 (by omega))
    · intro q_6
      have b_22 : r3.toInt = 0 := congrArg Int32.toInt q_6
      have z_23 : (-1 : Int32).toInt = -1 := rfl
      exact h9ret (-1 : Int32) σ0 m0 f0 (by first | assumption | exact PBA_0 (by omega) | exact PBA_1 (by omega) | exact PBA_2 (by omega) | exact PBA_3 (by omega))
  · intro q_1
    have w_24 := Int32.toInt_lt a1
    have w_25 := Int32.le_toInt a1
    have b_26 : a1.toInt = (-1) := congrArg Int32.toInt q_1
    intro σ9 eσ9
    have z_27 : (0 : Int32).toInt = 0 := rfl
    have mσ9 : MI σ9 := by rw [eσ9]; exact MIs_f46 m0 (by omega) (by omega)
    have fσ9 : Fr [74, 148] [46] σ0 σ9 := by rw [eσ9]; exact Fr_si f0 (by decide +kernel) (fun _ => by decide +kernel)
    have k_28 : (gi σ9 74 0).toInt = (gi σ0 74 0).toInt := gk_r eσ9 rfl
    have k_29 : (gi σ9 74 46).toInt = 0 := by rw [eσ9]; exact congrArg Int32.toInt gi_si_eq
    exact h9ret (0 : Int32) σ9 mσ9 fσ9 (by first | assumption | exact PBA_0 (by omega) | exact PBA_1 (by omega) | exact PBA_2 (by omega) | exact PBA_3 (by omega))
/-! the class's mower: its answer, and the count -/
noncomputable def MWA (r a1 a2 : Int32) (c1 c2 : Int) : Prop := ((a1.toInt < 0 ∨ 6 < a1.toInt) → r.toInt = -1 ∧ c2 = c1) ∧ (0 ≤ a1.toInt → a1.toInt ≤ 6 → ((a2.toInt < 0 ∨ 9 < a2.toInt) → r.toInt = -2 ∧ c2 = c1) ∧ (0 ≤ a2.toInt → a2.toInt ≤ 9 → (6 ≤ c1 → r.toInt = -4 ∧ c2 = c1) ∧ (c1 < 6 → r.toInt = c1 ∧ c2 = c1 + 1)))
theorem MWA_1 {a1 a2 : Int32} {c : Int} (h : a1.toInt < 0 ∨ 6 < a1.toInt) : MWA (-1) a1 a2 c c := ⟨fun _ => ⟨rfl, rfl⟩, fun _ _ => by omega⟩
theorem MWA_2 {a1 a2 : Int32} {c : Int} (h : 0 ≤ a1.toInt ∧ a1.toInt ≤ 6 ∧ (a2.toInt < 0 ∨ 9 < a2.toInt)) : MWA (-2) a1 a2 c c := ⟨fun _ => by omega, fun _ _ => ⟨fun _ => ⟨rfl, rfl⟩, fun _ _ => by omega⟩⟩
theorem MWA_4 {a1 a2 : Int32} {c : Int} (h : 0 ≤ a1.toInt ∧ a1.toInt ≤ 6 ∧ 0 ≤ a2.toInt ∧ a2.toInt ≤ 9 ∧ 6 ≤ c) : MWA (-4) a1 a2 c c := ⟨fun _ => by omega, fun _ _ => ⟨fun _ => by omega, fun _ _ => ⟨fun _ => ⟨rfl, rfl⟩, fun _ => by omega⟩⟩⟩
theorem MWA_0 {r a1 a2 : Int32} {c c2 : Int} (h : 0 ≤ a1.toInt ∧ a1.toInt ≤ 6 ∧ 0 ≤ a2.toInt ∧ a2.toInt ≤ 9 ∧ c < 6 ∧ r.toInt = c ∧ c2 = c + 1) : MWA r a1 a2 c c2 := ⟨fun _ => by omega, fun _ _ => ⟨fun _ => by omega, fun _ _ => ⟨fun _ => by omega, fun _ => ⟨h.2.2.2.2.2.1, h.2.2.2.2.2.2⟩⟩⟩⟩
/-! the methods as functions: how their texts are gone through -/
noncomputable def fl {α β : Type} (a : α) (f : α → β) : β := f a
noncomputable def fb {α β : Type} (x : α × Sg) (f : α → Sg → β) : β := f x.1 x.2
noncomputable def fop {α β : Type} (o : Option α) (A : β) (f : α → β) : β := match o with | none => A | some a => f a
noncomputable def fm {β : Type} (o : Option Nat) (A : β) (f : Nat → Nat → β) : β := match o with | none => A | some a => f a ((kd a).1 - 10)
theorem f_l {α β : Type} {a v : α} {f : α → β} {R : β} (e : v = a) (H : fl a f = R) : f v = R := by subst e; exact H
theorem f_v {β : Type} {x s : Sg} {f : Sg → β} {R : β} (e : x = s) (H : fl x f = R) : f s = R := by subst e; exact H
theorem f_b {α β : Type} {x : α × Sg} {r : α} {s : Sg} {f : α → Sg → β} {R : β} (e : x = (r, s)) (H : fb x f = R) : f r s = R := by subst e; exact H
theorem f_t {β : Type} {c : Prop} {d : Decidable c} {A B R : β} (q : c) (H : @ite β c d A B = R) : A = R := by rw [if_pos q] at H; exact H
theorem f_f {β : Type} {c : Prop} {d : Decidable c} {A B R : β} (q : ¬ c) (H : @ite β c d A B = R) : B = R := by rw [if_neg q] at H; exact H
theorem f_o {α β : Type} {o : Option α} {a : α} {A : β} {f : α → β} {R : β} (e : o = some a) (H : fop o A f = R) : f a = R := by subst e; exact H
theorem f_m {β : Type} {o : Option Nat} {a ci z : Nat} {A : β} {f : Nat → Nat → β} {R : β} (e : o = some a) (hk : kd a = (10 + ci, z)) (H : fm o A f = R) : f a ci = R := by
  subst e
  have H : f a ((kd a).1 - 10) = R := H
  rw [hk, show (10 + ci, z).1 - 10 = ci from Nat.add_sub_cancel_left _ _] at H
  exact H
noncomputable def F_X9_isEmpty (c0 : Nat) (σ : Sg) : Int32 × Sg := (if 0 ≤ (gi σ c0 1) then ((0 : Int32), σ) else ((1 : Int32), σ))
set_option maxRecDepth 100000 in
set_option maxHeartbeats 4000000 in
theorem kF_X9_isEmpty {l : Launch} {V : Vx} {c0 : Nat} {σ0 : Sg} {Qk : Int32 → Sg → Prop} (hc0 : isT c0) (m0 : XI V σ0) (h9ret : ∀ (r : Int32) (σ' : Sg), XI V σ' → FX (fun id => False) (fun _ _ => False) σ0 σ' → (0 ≤ r.toInt) → (r.toInt ≤ 1) → (F_X9_isEmpty c0 σ0 = (r, σ')) → Qk r σ') : K_X9_isEmpty l V c0 σ0 Qk := by
  refine e_X9_isEmpty (fun M hl hV hN C => ?_)
  subst hl
  subst hV
  obtain ⟨R9, H0⟩ : ∃ R9, F_X9_isEmpty c0 σ0 = R9 := ⟨_, rfl⟩
  have oc0 : hid (c0 = 52 ∨ c0 = 54 ∨ c0 = 56 ∨ c0 = 58 ∨ c0 = 60 ∨ c0 = 62) := hc0
  have f0 : FX (fun id => False) (fun _ _ => False) σ0 σ0 := FX_rf
  have t_1 := XI_c1 m0 (id := c0) (k := 1) (lim_T0_1 hc0)
  have H := H0
  unfold F_X9_isEmpty at H
  refine s_X9_isEmpty_0 C hN hc0 ?_
  refine ⟨?_, ?_⟩
  · intro q_2
    replace H := f_t q_2 H
    have b_3 : (0 : Int) ≤ (gi σ0 c0 1).toInt := Int32.le_iff_toInt_le.mp q_2
    have z_4 : (0 : Int32).toInt = 0 := rfl
    exact h9ret (0 : Int32) σ0 m0 f0 (by omega) (by omega) (H0.trans H.symm)
  · intro q_2
    replace H := f_f q_2 H
    have b_5 : ¬ (0 : Int) ≤ (gi σ0 c0 1).toInt := fun h9 => q_2 (Int32.le_iff_toInt_le.mpr h9)
    have z_6 : (1 : Int32).toInt = 1 := rfl
    exact h9ret (1 : Int32) σ0 m0 f0 (by omega) (by omega) (H0.trans H.symm)
noncomputable def F_X9_has (c0 : Nat) (a1 : Int32) (σ : Sg) : Int32 × Sg := (if a1 < 0 then ((0 : Int32), σ) else (if (gi σ c0 2) ≤ a1 then ((0 : Int32), σ) else ((1 : Int32), σ)))
set_option maxRecDepth 100000 in
set_option maxHeartbeats 4000000 in
theorem kF_X9_has {l : Launch} {V : Vx} {c0 : Nat} {a1 : Int32} {σ0 : Sg} {Qk : Int32 → Sg → Prop} (hc0 : isT c0) (m0 : XI V σ0) (h9ret : ∀ (r : Int32) (σ' : Sg), XI V σ' → FX (fun id => False) (fun _ _ => False) σ0 σ' → (0 ≤ r.toInt) → (r.toInt ≤ 1) → ((r.toInt = 1 ∧ 0 ≤ a1.toInt ∧ a1.toInt < (gi σ0 c0 2).toInt) ∨ r.toInt = 0) → (F_X9_has c0 a1 σ0 = (r, σ')) → Qk r σ') : K_X9_has l V c0 a1 σ0 Qk := by
  refine e_X9_has (fun M hl hV hN C => ?_)
  subst hl
  subst hV
  obtain ⟨R9, H0⟩ : ∃ R9, F_X9_has c0 a1 σ0 = R9 := ⟨_, rfl⟩
  have oc0 : hid (c0 = 52 ∨ c0 = 54 ∨ c0 = 56 ∨ c0 = 58 ∨ c0 = 60 ∨ c0 = 62) := hc0
  have f0 : FX (fun id => False) (fun _ _ => False) σ0 σ0 := FX_rf
  have t_1 := XI_c1 m0 (id := c0) (k := 2) (lim_T0_2 hc0)
  have H := H0
  unfold F_X9_has at H
  refine s_X9_has_0 C hN hc0 ?_
  refine ⟨?_, ?_⟩
  · intro q_2
    replace H := f_t q_2 H
    have w_3 := Int32.toInt_lt a1
    have w_4 := Int32.le_toInt a1
    have b_5 : a1.toInt < 0 := Int32.lt_iff_toInt_lt.mp q_2
    have z_6 : (0 : Int32).toInt = 0 := rfl
    exact h9ret (0 : Int32) σ0 m0 f0 (by omega) (by omega) (by first | with_reducible assumption | with_reducible rfl | omega | assumption | rfl) (H0.trans H.symm)
  · intro q_2
    replace H := f_f q_2 H
    have w_7 := Int32.toInt_lt a1
    have w_8 := Int32.le_toInt a1
    have b_9 : ¬ a1.toInt < 0 := fun h9 => q_2 (Int32.lt_iff_toInt_lt.mpr h9)
    refine ⟨?_, ?_⟩
    · intro q_10
      replace H := f_t q_10 H
      have b_11 : (gi σ0 c0 2).toInt ≤ a1.toInt := Int32.le_iff_toInt_le.mp q_10
      have z_12 : (0 : Int32).toInt = 0 := rfl
      exact h9ret (0 : Int32) σ0 m0 f0 (by omega) (by omega) (by first | with_reducible assumption | with_reducible rfl | omega | assumption | rfl) (H0.trans H.symm)
    · intro q_10
      replace H := f_f q_10 H
      have b_13 : ¬ (gi σ0 c0 2).toInt ≤ a1.toInt := fun h9 => q_10 (Int32.le_iff_toInt_le.mpr h9)
      have z_14 : (1 : Int32).toInt = 1 := rfl
      exact h9ret (1 : Int32) σ0 m0 f0 (by omega) (by omega) (by first | with_reducible assumption | with_reducible rfl | omega | assumption | rfl) (H0.trans H.symm)
noncomputable def F_X9_hasPart (c0 : Nat) (a1 : Int32) (a2 : Int32) (σ : Sg) : Int32 × Sg := (if a2 < 0 then ((0 : Int32), σ) else (if a1 < 0 then ((0 : Int32), σ) else (if (gi σ c0 2) < a2 then ((0 : Int32), σ) else (if ((gi σ c0 2) - a2) < a1 then ((0 : Int32), σ) else ((1 : Int32), σ)))))
set_option maxRecDepth 100000 in
set_option maxHeartbeats 4000000 in
theorem kF_X9_hasPart {l : Launch} {V : Vx} {c0 : Nat} {a1 : Int32} {a2 : Int32} {σ0 : Sg} {Qk : Int32 → Sg → Prop} (hc0 : isT c0) (m0 : XI V σ0) (h9ret : ∀ (r : Int32) (σ' : Sg), XI V σ' → FX (fun id => False) (fun _ _ => False) σ0 σ' → (0 ≤ r.toInt) → (r.toInt ≤ 1) → ((r.toInt = 1 ∧ 0 ≤ a1.toInt ∧ 0 ≤ a2.toInt ∧ a1.toInt + a2.toInt ≤ (gi σ0 c0 2).toInt) ∨ r.toInt = 0) → (F_X9_hasPart c0 a1 a2 σ0 = (r, σ')) → Qk r σ') : K_X9_hasPart l V c0 a1 a2 σ0 Qk := by
  refine e_X9_hasPart (fun M hl hV hN C => ?_)
  subst hl
  subst hV
  obtain ⟨R9, H0⟩ : ∃ R9, F_X9_hasPart c0 a1 a2 σ0 = R9 := ⟨_, rfl⟩
  have oc0 : hid (c0 = 52 ∨ c0 = 54 ∨ c0 = 56 ∨ c0 = 58 ∨ c0 = 60 ∨ c0 = 62) := hc0
  have f0 : FX (fun id => False) (fun _ _ => False) σ0 σ0 := FX_rf
  have t_1 := XI_c1 m0 (id := c0) (k := 2) (lim_T0_2 hc0)
  have H := H0
  unfold F_X9_hasPart at H
  refine s_X9_hasPart_0 C hN hc0 ?_
  refine ⟨?_, ?_⟩
  · intro q_2
    replace H := f_t q_2 H
    have w_3 := Int32.toInt_lt a2
    have w_4 := Int32.le_toInt a2
    have b_5 : a2.toInt < 0 := Int32.lt_iff_toInt_lt.mp q_2
    have z_6 : (0 : Int32).toInt = 0 := rfl
    exact h9ret (0 : Int32) σ0 m0 f0 (by omega) (by omega) (by first | with_reducible assumption | with_reducible rfl | omega | assumption | rfl) (H0.trans H.symm)
  · intro q_2
    replace H := f_f q_2 H
    have w_7 := Int32.toInt_lt a2
    have w_8 := Int32.le_toInt a2
    have b_9 : ¬ a2.toInt < 0 := fun h9 => q_2 (Int32.lt_iff_toInt_lt.mpr h9)
    refine ⟨?_, ?_⟩
    · intro q_10
      replace H := f_t q_10 H
      have w_11 := Int32.toInt_lt a1
      have w_12 := Int32.le_toInt a1
      have b_13 : a1.toInt < 0 := Int32.lt_iff_toInt_lt.mp q_10
      have z_14 : (0 : Int32).toInt = 0 := rfl
      exact h9ret (0 : Int32) σ0 m0 f0 (by omega) (by omega) (by first | with_reducible assumption | with_reducible rfl | omega | assumption | rfl) (H0.trans H.symm)
    · intro q_10
      replace H := f_f q_10 H
      have w_15 := Int32.toInt_lt a1
      have w_16 := Int32.le_toInt a1
      have b_17 : ¬ a1.toInt < 0 := fun h9 => q_10 (Int32.lt_iff_toInt_lt.mpr h9)
      refine ⟨?_, ?_⟩
      · intro q_18
        replace H := f_t q_18 H
        have b_19 : (gi σ0 c0 2).toInt < a2.toInt := Int32.lt_iff_toInt_lt.mp q_18
        have z_20 : (0 : Int32).toInt = 0 := rfl
        exact h9ret (0 : Int32) σ0 m0 f0 (by omega) (by omega) (by first | with_reducible assumption | with_reducible rfl | omega | assumption | rfl) (H0.trans H.symm)
      · intro q_18
        replace H := f_f q_18 H
        have b_21 : ¬ (gi σ0 c0 2).toInt < a2.toInt := fun h9 => q_18 (Int32.lt_iff_toInt_lt.mpr h9)
        refine ⟨?_, ?_⟩
        · intro q_22
          replace H := f_t q_22 H
          try have t_23 : ((gi σ0 c0 2) - a2).toInt = (gi σ0 c0 2).toInt - a2.toInt := i_sub (x := (gi σ0 c0 2)) (y := a2) (by show (_ : Int) ≤ (gi σ0 c0 2).toInt - a2.toInt; omega) (by show (gi σ0 c0 2).toInt - a2.toInt ≤ (_ : Int); omega)
          have b_24 : ((gi σ0 c0 2) - a2).toInt < a1.toInt := Int32.lt_iff_toInt_lt.mp q_22
          have z_25 : (0 : Int32).toInt = 0 := rfl
          exact h9ret (0 : Int32) σ0 m0 f0 (by omega) (by omega) (by first | with_reducible assumption | with_reducible rfl | omega | assumption | rfl) (H0.trans H.symm)
        · intro q_22
          replace H := f_f q_22 H
          try have t_26 : ((gi σ0 c0 2) - a2).toInt = (gi σ0 c0 2).toInt - a2.toInt := i_sub (x := (gi σ0 c0 2)) (y := a2) (by show (_ : Int) ≤ (gi σ0 c0 2).toInt - a2.toInt; omega) (by show (gi σ0 c0 2).toInt - a2.toInt ≤ (_ : Int); omega)
          have b_27 : ¬ ((gi σ0 c0 2) - a2).toInt < a1.toInt := fun h9 => q_22 (Int32.lt_iff_toInt_lt.mpr h9)
          have z_28 : (1 : Int32).toInt = 1 := rfl
          exact h9ret (1 : Int32) σ0 m0 f0 (by omega) (by omega) (by first | with_reducible assumption | with_reducible rfl | omega | assumption | rfl) (H0.trans H.symm)
noncomputable def F_X9_cut (c0 : Nat) (a1 : Int64) (σ : Sg) : Int64 × Sg := (if (gi σ c0 1).toInt = 0 then (a1.toInt32.toInt8.toInt32.toInt64, σ) else (if (gi σ c0 1).toInt = 1 then (a1.toInt32.toInt16.toInt32.toInt64, σ) else (if (gi σ c0 1).toInt = 2 then (a1.toInt32.toInt64, σ) else (if (gi σ c0 1).toInt = 3 then (a1, σ) else (if (gi σ c0 1).toInt = 4 then (if (lg_cmp a1 (0 : Int64)) = 0 then ((0 : Int64), σ) else ((1 : Int64), σ)) else (a1, σ))))))
set_option maxRecDepth 100000 in
set_option maxHeartbeats 4000000 in
theorem kF_X9_cut {l : Launch} {V : Vx} {c0 : Nat} {a1 : Int64} {σ0 : Sg} {Qk : Int64 → Sg → Prop} (hc0 : isT c0) (m0 : XI V σ0) (h9ret : ∀ (r : Int64) (σ' : Sg), XI V σ' → FX (fun id => False) (fun _ _ => False) σ0 σ' → (F_X9_cut c0 a1 σ0 = (r, σ')) → Qk r σ') : K_X9_cut l V c0 a1 σ0 Qk := by
  refine e_X9_cut (fun M hl hV hN C => ?_)
  subst hl
  subst hV
  obtain ⟨R9, H0⟩ : ∃ R9, F_X9_cut c0 a1 σ0 = R9 := ⟨_, rfl⟩
  have oc0 : hid (c0 = 52 ∨ c0 = 54 ∨ c0 = 56 ∨ c0 = 58 ∨ c0 = 60 ∨ c0 = 62) := hc0
  have f0 : FX (fun id => False) (fun _ _ => False) σ0 σ0 := FX_rf
  have t_1 := XI_c1 m0 (id := c0) (k := 1) (lim_T0_1 hc0)
  have H := H0
  unfold F_X9_cut at H
  refine s_X9_cut_0 C hN hc0 ?_
  refine ⟨?_, ?_, ?_, ?_, ?_, ?_⟩
  · intro q_2
    replace H := f_f (by omega) H
    replace H := f_f (by omega) H
    replace H := f_f (by omega) H
    replace H := f_f (by omega) H
    replace H := f_f (by omega) H
    exact h9ret a1 σ0 m0 f0 (H0.trans H.symm)
  · intro q_2
    replace H := f_t q_2 H
    exact h9ret a1.toInt32.toInt8.toInt32.toInt64 σ0 m0 f0 (H0.trans H.symm)
  · intro q_2
    replace H := f_f (by omega) H
    replace H := f_t q_2 H
    exact h9ret a1.toInt32.toInt16.toInt32.toInt64 σ0 m0 f0 (H0.trans H.symm)
  · intro q_2
    replace H := f_f (by omega) H
    replace H := f_f (by omega) H
    replace H := f_t q_2 H
    exact h9ret a1.toInt32.toInt64 σ0 m0 f0 (H0.trans H.symm)
  · intro q_2
    replace H := f_f (by omega) H
    replace H := f_f (by omega) H
    replace H := f_f (by omega) H
    replace H := f_t q_2 H
    exact h9ret a1 σ0 m0 f0 (H0.trans H.symm)
  · intro q_2
    replace H := f_f (by omega) H
    replace H := f_f (by omega) H
    replace H := f_f (by omega) H
    replace H := f_f (by omega) H
    replace H := f_t q_2 H
    refine ⟨?_, ?_⟩
    · intro q_3
      replace H := f_t q_3 H
      exact h9ret (0 : Int64) σ0 m0 f0 (H0.trans H.symm)
    · intro q_3
      replace H := f_f q_3 H
      exact h9ret (1 : Int64) σ0 m0 f0 (H0.trans H.symm)
noncomputable def LB_J7_fill_d0a16_6 (a1 : Nat) (rec : Int64 → Int32 → Int32 → Sg → Sg) (x1 : Int64) (x3 : Int32) (x4 : Int32) (σ : Sg) : Sg := (if x4 ≤ x3 then σ else fl (sl σ a1 x3.toNatClampNeg x1) (fun σ3 => fl (x3 + 1) (fun v4 => rec x1 v4 x4 σ3)))
noncomputable def LF_J7_fill_d0a16 (a1 : Nat) : Nat → Int64 → Int32 → Int32 → Sg → Sg
  | 0, _, _, _, σ => σ
  | n + 1, x1, x3, x4, σ => LB_J7_fill_d0a16_6 a1 (LF_J7_fill_d0a16 a1 n) x1 x3 x4 σ
noncomputable def F_J7_fill_d0a16 (a1 : Nat) (a2 : Int64) (σ : Sg) : Sg := fl (Int32.ofNat 60) (fun v1 => LF_J7_fill_d0a16 a1 90 a2 (0 : Int32) v1 σ)
set_option maxRecDepth 100000 in
set_option maxHeartbeats 4000000 in
theorem kF_J7_fill_d0a16 {l : Launch} {V : Vx} {a1 : Nat} {a2 : Int64} {σ0 : Sg} {Qk : Sg → Prop} {na1 : Nat} (ha1 : kd a1 = (3, na1)) (la1 : a1 ∈ ids (V)) (m0 : XI V σ0) (pre0 : na1 = 60) (h9ret : ∀ (σ' : Sg), XI V σ' → FX (fun id => id = a1) (fun _ _ => False) σ0 σ' → (F_J7_fill_d0a16 a1 a2 σ0 = σ') → Qk σ') : K_J7_fill_d0a16 l V a1 a2 σ0 Qk := by
  refine e_J7_fill_d0a16 (fun M hl hV hN C => ?_)
  subst hl
  subst hV
  obtain ⟨R9, H0⟩ : ∃ R9, F_J7_fill_d0a16 a1 a2 σ0 = R9 := ⟨_, rfl⟩
  have T : ∀ n : Nat, (∀ (x1 : Int64) (x3 : Int32) (x4 : Int32) (σ : Sg), XI (mV M) σ → FX (fun id => id = a1) (fun _ _ => False) σ0 σ → (0 ≤ x3.toInt) → (x3.toInt ≤ 60) → (60 ≤ x4.toInt) → (x4.toInt ≤ 60) → (LF_J7_fill_d0a16 a1 n x1 x3 x4 σ = R9) → (61 - x3.toInt).toNat < n → PS M 6 [(0, .ref a1), (1, .long x1), (3, .int x3), (4, .int x4)] [] σ (0, 0)) := by
    intro n
    induction n with
    | zero => exact fun _ _ _ _ _ _ _ _ _ _ _ h8 => absurd h8 (Nat.not_lt_zero _)
    | succ n ih =>
      have ih6 := ih
      · intro x1 x3 x4 σ mσ fσ lx3 ux3 lx4 ux4 H hmu
        replace H : LB_J7_fill_d0a16_6 a1 (LF_J7_fill_d0a16 a1 n) x1 x3 x4 σ = R9 := H
        unfold LB_J7_fill_d0a16_6 at H
        refine s_J7_fill_d0a16_6 C hN ha1 la1 ?_
        refine ⟨?_, ?_⟩
        · intro q_1
          replace H := f_t q_1 H
          have b_2 : x4.toInt ≤ x3.toInt := Int32.le_iff_toInt_le.mp q_1
          exact h9ret σ mσ fσ (H0.trans H.symm)
        · intro q_1
          replace H := f_f q_1 H
          have b_3 : ¬ x4.toInt ≤ x3.toInt := fun h9 => q_1 (Int32.le_iff_toInt_le.mpr h9)
          have hv_4 : vp_in x3 na1 := vp_in_iff.mpr ⟨by omega, by omega⟩
          refine ⟨hv_4, ?_⟩
          intro σ3 eσ3
          replace H := f_l eσ3 H
          have mσ3 : XI (mV M) σ3 := by rw [eσ3]; exact XIs_l mσ
          have fσ3 : FX (fun id => id = a1) (fun _ _ => False) σ0 σ3 := by rw [eσ3]; exact FX_sl fσ ((show a1 = a1 from rfl))
          intro v4 ev4
          replace H := f_l ev4 H
          have t_5 : (x3 + (1 : Int32)).toInt = x3.toInt + 1 := i_add (x := x3) (y := (1 : Int32)) (by show (_ : Int) ≤ x3.toInt + 1; omega) (by show x3.toInt + 1 ≤ (_ : Int); omega)
          have t_6 : v4.toInt = (x3 + (1 : Int32)).toInt := congrArg Int32.toInt ev4
          exact ih6 x1 v4 x4 σ3 mσ3 fσ3 (by omega) (by omega) (by omega) (by omega) H (by omega)
  have U6 := T 90
  have f0 : FX (fun id => id = a1) (fun _ _ => False) σ0 σ0 := FX_rf
  have H := H0
  unfold F_J7_fill_d0a16 at H
  refine s_J7_fill_d0a16_0 C hN ha1 la1 ?_
  intro v1 ev1
  replace H := f_l (show v1 = _ from by rw [ev1, pre0]) H
  have e60 : v1.toInt = 60 := by rw [ev1, pre0]; rfl
  have z_7 : (0 : Int32).toInt = 0 := rfl
  have w_8 := Int32.toInt_lt v1
  have w_9 := Int32.le_toInt v1
  exact U6 a2 (0 : Int32) v1 σ0 m0 f0 (by omega) (by omega) (by omega) (by omega) H (by omega)
noncomputable def F_X9_becomes (c0 : Nat) (a1 : Int32) (a2 : Int32) (σ : Sg) : Sg := fl (si σ c0 1 a1) (fun σ1 => fl (si σ1 c0 2 a2) (fun σ2 => fl (F_J7_fill_d0a16 (c0 + 1) (0 : Int64) σ2) (fun σ3 => σ3)))
set_option maxRecDepth 100000 in
set_option maxHeartbeats 4000000 in
theorem kF_X9_becomes {l : Launch} {V : Vx} {c0 : Nat} {a1 : Int32} {a2 : Int32} {σ0 : Sg} {Qk : Sg → Prop} (hc0 : isT c0) (m0 : XI V σ0) (l_a1 : -1 ≤ a1.toInt) (u_a1 : a1.toInt ≤ 4) (l_a2 : 0 ≤ a2.toInt) (u_a2 : a2.toInt ≤ 60) (h9ret : ∀ (σ' : Sg), XI V σ' → FX (fun id => id = c0 + 1) (fun id k => (id = c0 ∧ k = 1) ∨ (id = c0 ∧ k = 2)) σ0 σ' → (F_X9_becomes c0 a1 a2 σ0 = σ') → Qk σ') : K_X9_becomes l V c0 a1 a2 σ0 Qk := by
  refine e_X9_becomes (fun M hl hV hN C => ?_)
  subst hl
  subst hV
  obtain ⟨R9, H0⟩ : ∃ R9, F_X9_becomes c0 a1 a2 σ0 = R9 := ⟨_, rfl⟩
  have oc0 : hid (c0 = 52 ∨ c0 = 54 ∨ c0 = 56 ∨ c0 = 58 ∨ c0 = 60 ∨ c0 = 62) := hc0
  have f0 : FX (fun id => id = c0 + 1) (fun id k => (id = c0 ∧ k = 1) ∨ (id = c0 ∧ k = 2)) σ0 σ0 := FX_rf
  have H := H0
  unfold F_X9_becomes at H
  refine s_X9_becomes_0 C hN hc0 ?_
  intro σ1 eσ1
  replace H := f_l eσ1 H
  have mσ1 : XI (mV M) σ1 := by rw [eσ1]; exact XIs_b m0 (lim_T0_1 hc0) (by omega) (by omega)
  have fσ1 : FX (fun id => id = c0 + 1) (fun id k => (id = c0 ∧ k = 1) ∨ (id = c0 ∧ k = 2)) σ0 σ1 := by rw [eσ1]; exact FX_si f0 (Or.inr (show (c0 = c0 ∧ 1 = 1) ∨ (c0 = c0 ∧ 1 = 2) from Or.inl (⟨rfl, rfl⟩)))
  intro σ2 eσ2
  replace H := f_l eσ2 H
  have mσ2 : XI (mV M) σ2 := by rw [eσ2]; exact XIs_b mσ1 (lim_T0_2 hc0) (by omega) (by omega)
  have fσ2 : FX (fun id => id = c0 + 1) (fun id k => (id = c0 ∧ k = 1) ∨ (id = c0 ∧ k = 2)) σ0 σ2 := by rw [eσ2]; exact FX_si fσ1 (Or.inr (show (c0 = c0 ∧ 2 = 1) ∨ (c0 = c0 ∧ 2 = 2) from Or.inr (⟨rfl, rfl⟩)))
  refine kF_J7_fill_d0a16 (kdT_1 hc0) (fxl (fxT_1 hc0)) mσ2  (by first | with_reducible assumption | with_reducible rfl | omega | assumption | rfl) (fun σ3 mσ3 cσ3 hσ3 => ?_)
  replace H := f_v hσ3 H
  have fσ3 : FX (fun id => id = c0 + 1) (fun id k => (id = c0 ∧ k = 1) ∨ (id = c0 ∧ k = 2)) σ0 σ3 := FX_tr fσ2 cσ3 (fun x (h9 : x = c0 + 1) => (show x = c0 + 1 from h9)) (fun _ _ h9 => h9.elim)
  exact h9ret σ3 mσ3 fσ3 (H0.trans H.symm)
noncomputable def F_X11_isTape (a1 : Int32) (σ : Sg) : Int32 × Sg := (if a1 < 0 then ((0 : Int32), σ) else (if (6 : Int32) ≤ a1 then ((0 : Int32), σ) else ((1 : Int32), σ)))
set_option maxRecDepth 100000 in
set_option maxHeartbeats 4000000 in
theorem kF_X11_isTape {l : Launch} {V : Vx} {a1 : Int32} {σ0 : Sg} {Qk : Int32 → Sg → Prop} (m0 : XI V σ0) (h9ret : ∀ (r : Int32) (σ' : Sg), XI V σ' → FX (fun id => False) (fun _ _ => False) σ0 σ' → (0 ≤ r.toInt) → (r.toInt ≤ 1) → ((r.toInt = 1 ∧ 0 ≤ a1.toInt ∧ a1.toInt ≤ 5) ∨ (r.toInt = 0 ∧ (a1.toInt < 0 ∨ 5 < a1.toInt))) → (F_X11_isTape a1 σ0 = (r, σ')) → Qk r σ') : K_X11_isTape l V a1 σ0 Qk := by
  refine e_X11_isTape (fun M hl hV hN C => ?_)
  subst hl
  subst hV
  obtain ⟨R9, H0⟩ : ∃ R9, F_X11_isTape a1 σ0 = R9 := ⟨_, rfl⟩
  have f0 : FX (fun id => False) (fun _ _ => False) σ0 σ0 := FX_rf
  have H := H0
  unfold F_X11_isTape at H
  refine s_X11_isTape_0 C hN  ?_
  refine ⟨?_, ?_⟩
  · intro q_1
    replace H := f_t q_1 H
    have w_2 := Int32.toInt_lt a1
    have w_3 := Int32.le_toInt a1
    have b_4 : a1.toInt < 0 := Int32.lt_iff_toInt_lt.mp q_1
    have z_5 : (0 : Int32).toInt = 0 := rfl
    exact h9ret (0 : Int32) σ0 m0 f0 (by omega) (by omega) (by first | with_reducible assumption | with_reducible rfl | omega | assumption | rfl) (H0.trans H.symm)
  · intro q_1
    replace H := f_f q_1 H
    have w_6 := Int32.toInt_lt a1
    have w_7 := Int32.le_toInt a1
    have b_8 : ¬ a1.toInt < 0 := fun h9 => q_1 (Int32.lt_iff_toInt_lt.mpr h9)
    refine ⟨?_, ?_⟩
    · intro q_9
      replace H := f_t q_9 H
      have b_10 : (6 : Int) ≤ a1.toInt := Int32.le_iff_toInt_le.mp q_9
      have z_11 : (0 : Int32).toInt = 0 := rfl
      exact h9ret (0 : Int32) σ0 m0 f0 (by omega) (by omega) (by first | with_reducible assumption | with_reducible rfl | omega | assumption | rfl) (H0.trans H.symm)
    · intro q_9
      replace H := f_f q_9 H
      have b_12 : ¬ (6 : Int) ≤ a1.toInt := fun h9 => q_9 (Int32.le_iff_toInt_le.mpr h9)
      have z_13 : (1 : Int32).toInt = 1 := rfl
      exact h9ret (1 : Int32) σ0 m0 f0 (by omega) (by omega) (by first | with_reducible assumption | with_reducible rfl | omega | assumption | rfl) (H0.trans H.symm)
noncomputable def F_X11_tape (a1 : Int32) (a2 : Int32) (a3 : Int32) (σ : Sg) : Int32 × Sg := fb (F_X11_isTape a1 σ) (fun r2 σ1 => (if r2 = 0 then ((-1 : Int32), σ1) else (if a2 = (-1 : Int32) then fl (F_X9_becomes (52 + 2 * a1.toNatClampNeg) (-1 : Int32) (0 : Int32) σ1) (fun σ12 => ((1 : Int32), σ12)) else (if a2 < (-1 : Int32) then ((-2 : Int32), σ1) else (if (4 : Int32) < a2 then ((-2 : Int32), σ1) else (if a3 ≤ (60 : Int32) then (if 0 ≤ a3 then fl (F_X9_becomes (52 + 2 * a1.toNatClampNeg) a2 a3 σ1) (fun σ10 => ((1 : Int32), σ10)) else ((-14 : Int32), σ1)) else ((-2 : Int32), σ1)))))))
set_option maxRecDepth 100000 in
set_option maxHeartbeats 4000000 in
theorem kF_X11_tape {l : Launch} {V : Vx} {a1 : Int32} {a2 : Int32} {a3 : Int32} {σ0 : Sg} {Qk : Int32 → Sg → Prop} (m0 : XI V σ0) (h9ret : ∀ (r : Int32) (σ' : Sg), XI V σ' → FX (fun id => (53 ≤ id ∧ id ≤ 63)) (fun id k => (52 ≤ id ∧ id ≤ 62)) σ0 σ' → (F_X11_tape a1 a2 a3 σ0 = (r, σ')) → Qk r σ') : K_X11_tape l V a1 a2 a3 σ0 Qk := by
  refine e_X11_tape (fun M hl hV hN C => ?_)
  subst hl
  subst hV
  obtain ⟨R9, H0⟩ : ∃ R9, F_X11_tape a1 a2 a3 σ0 = R9 := ⟨_, rfl⟩
  have f0 : FX (fun id => (53 ≤ id ∧ id ≤ 63)) (fun id k => (52 ≤ id ∧ id ≤ 62)) σ0 σ0 := FX_rf
  have H := H0
  unfold F_X11_tape at H
  refine s_X11_tape_0 C hN  ?_
  refine kF_X11_isTape  m0   (fun r2 σ1 mσ1 cσ1 plσ1 phσ1 (pσ1_0 : (r2.toInt = 1 ∧ 0 ≤ a1.toInt ∧ a1.toInt ≤ 5) ∨ (r2.toInt = 0 ∧ (a1.toInt < 0 ∨ 5 < a1.toInt))) hσ1 => ?_)
  obtain rfl := FX_nil cσ1
  replace H := f_b hσ1 H
  refine ⟨?_, ?_⟩
  · intro q_1
    replace H := f_f q_1 H
    have b_2 : ¬ r2.toInt = 0 := fun h9 => q_1 (Int32.toInt_inj.mp h9)
    refine ⟨?_, ?_⟩
    · intro q_3
      replace H := f_f q_3 H
      have w_4 := Int32.toInt_lt a2
      have w_5 := Int32.le_toInt a2
      have b_6 : ¬ a2.toInt = (-1) := fun h9 => q_3 (Int32.toInt_inj.mp h9)
      refine ⟨?_, ?_⟩
      · intro q_7
        replace H := f_t q_7 H
        have b_8 : a2.toInt < (-1) := Int32.lt_iff_toInt_lt.mp q_7
        have z_9 : (-2 : Int32).toInt = -2 := rfl
        exact h9ret (-2 : Int32) σ0 m0 f0 (H0.trans H.symm)
      · intro q_7
        replace H := f_f q_7 H
        have b_10 : ¬ a2.toInt < (-1) := fun h9 => q_7 (Int32.lt_iff_toInt_lt.mpr h9)
        refine ⟨?_, ?_⟩
        · intro q_11
          replace H := f_t q_11 H
          have b_12 : (4 : Int) < a2.toInt := Int32.lt_iff_toInt_lt.mp q_11
          have z_13 : (-2 : Int32).toInt = -2 := rfl
          exact h9ret (-2 : Int32) σ0 m0 f0 (H0.trans H.symm)
        · intro q_11
          replace H := f_f q_11 H
          have b_14 : ¬ (4 : Int) < a2.toInt := fun h9 => q_11 (Int32.lt_iff_toInt_lt.mpr h9)
          refine ⟨?_, ?_⟩
          · intro q_15
            replace H := f_t q_15 H
            have w_16 := Int32.toInt_lt a3
            have w_17 := Int32.le_toInt a3
            have b_18 : a3.toInt ≤ 60 := Int32.le_iff_toInt_le.mp q_15
            refine ⟨?_, ?_⟩
            · intro q_19
              replace H := f_t q_19 H
              have b_20 : (0 : Int) ≤ a3.toInt := Int32.le_iff_toInt_le.mp q_19
              have w_21 := Int32.toInt_lt a1
              have w_22 := Int32.le_toInt a1
              have hv_23 : vp_in a1 6 := vp_in_iff.mpr ⟨by omega, by omega⟩
              refine ⟨hv_23, ?_⟩
              have ec_24 := cl_eq (x := a1) (by omega)
              refine kF_X9_becomes (isT_of hv_23) m0  (by omega) (by omega) (by omega) (by omega) (fun σ10 mσ10 cσ10 hσ10 => ?_)
              replace H := f_v hσ10 H
              have fσ10 : FX (fun id => (53 ≤ id ∧ id ≤ 63)) (fun id k => (52 ≤ id ∧ id ≤ 62)) σ0 σ10 := FX_tr f0 cσ10 (fun x (h9 : x = 52 + 2 * a1.toNatClampNeg + 1) => (show (53 ≤ x ∧ x ≤ 63) from ⟨by omega, by omega⟩)) (fun x k (h9 : (x = 52 + 2 * a1.toNatClampNeg ∧ k = 1) ∨ (x = 52 + 2 * a1.toNatClampNeg ∧ k = 2)) => (show ((53 ≤ x ∧ x ≤ 63)) ∨ ((52 ≤ x ∧ x ≤ 62)) from h9.elim (fun e9 => Or.inr (show (52 ≤ x ∧ x ≤ 62) from ⟨by omega, by omega⟩)) (fun h9 => Or.inr (show (52 ≤ x ∧ x ≤ 62) from ⟨by omega, by omega⟩))))
              have z_25 : (1 : Int32).toInt = 1 := rfl
              exact h9ret (1 : Int32) σ10 mσ10 fσ10 (H0.trans H.symm)
            · intro q_19
              replace H := f_f q_19 H
              have b_26 : ¬ (0 : Int) ≤ a3.toInt := fun h9 => q_19 (Int32.le_iff_toInt_le.mpr h9)
              have z_27 : (-14 : Int32).toInt = -14 := rfl
              exact h9ret (-14 : Int32) σ0 m0 f0 (H0.trans H.symm)
          · intro q_15
            replace H := f_f q_15 H
            have w_28 := Int32.toInt_lt a3
            have w_29 := Int32.le_toInt a3
            have b_30 : ¬ a3.toInt ≤ 60 := fun h9 => q_15 (Int32.le_iff_toInt_le.mpr h9)
            have z_31 : (-2 : Int32).toInt = -2 := rfl
            exact h9ret (-2 : Int32) σ0 m0 f0 (H0.trans H.symm)
    · intro q_3
      replace H := f_t q_3 H
      have w_32 := Int32.toInt_lt a2
      have w_33 := Int32.le_toInt a2
      have b_34 : a2.toInt = (-1) := congrArg Int32.toInt q_3
      have w_35 := Int32.toInt_lt a1
      have w_36 := Int32.le_toInt a1
      have hv_37 : vp_in a1 6 := vp_in_iff.mpr ⟨by omega, by omega⟩
      refine ⟨hv_37, ?_⟩
      have ec_38 := cl_eq (x := a1) (by omega)
      have z_39 : (-1 : Int32).toInt = -1 := rfl
      have z_40 : (0 : Int32).toInt = 0 := rfl
      refine kF_X9_becomes (isT_of hv_37) m0  (by omega) (by omega) (by omega) (by omega) (fun σ12 mσ12 cσ12 hσ12 => ?_)
      replace H := f_v hσ12 H
      have fσ12 : FX (fun id => (53 ≤ id ∧ id ≤ 63)) (fun id k => (52 ≤ id ∧ id ≤ 62)) σ0 σ12 := FX_tr f0 cσ12 (fun x (h9 : x = 52 + 2 * a1.toNatClampNeg + 1) => (show (53 ≤ x ∧ x ≤ 63) from ⟨by omega, by omega⟩)) (fun x k (h9 : (x = 52 + 2 * a1.toNatClampNeg ∧ k = 1) ∨ (x = 52 + 2 * a1.toNatClampNeg ∧ k = 2)) => (show ((53 ≤ x ∧ x ≤ 63)) ∨ ((52 ≤ x ∧ x ≤ 62)) from h9.elim (fun e9 => Or.inr (show (52 ≤ x ∧ x ≤ 62) from ⟨by omega, by omega⟩)) (fun h9 => Or.inr (show (52 ≤ x ∧ x ≤ 62) from ⟨by omega, by omega⟩))))
      have z_41 : (1 : Int32).toInt = 1 := rfl
      exact h9ret (1 : Int32) σ12 mσ12 fσ12 (H0.trans H.symm)
  · intro q_1
    replace H := f_t q_1 H
    have b_42 : r2.toInt = 0 := congrArg Int32.toInt q_1
    have z_43 : (-1 : Int32).toInt = -1 := rfl
    exact h9ret (-1 : Int32) σ0 m0 f0 (H0.trans H.symm)
noncomputable def F_X11_item (a1 : Int32) (a2 : Int32) (a3 : Int64) (σ : Sg) : Int32 × Sg := fb (F_X11_isTape a1 σ) (fun r2 σ1 => (if r2 = 0 then ((-1 : Int32), σ1) else fb (F_X9_isEmpty (52 + 2 * a1.toNatClampNeg) σ1) (fun r6 σ5 => (if r6 = 0 then fb (F_X9_has (52 + 2 * a1.toNatClampNeg) a2 σ5) (fun r9 σ8 => (if r9 = 0 then ((-13 : Int32), σ8) else fb (F_X9_cut (52 + 2 * a1.toNatClampNeg) a3 σ8) (fun r12 σ11 => fl (sl σ11 ((52 + 2 * a1.toNatClampNeg) + 1) a2.toNatClampNeg r12) (fun σ14 => ((1 : Int32), σ14))))) else ((-11 : Int32), σ5)))))
set_option maxRecDepth 100000 in
set_option maxHeartbeats 4000000 in
theorem kF_X11_item {l : Launch} {V : Vx} {a1 : Int32} {a2 : Int32} {a3 : Int64} {σ0 : Sg} {Qk : Int32 → Sg → Prop} (m0 : XI V σ0) (h9ret : ∀ (r : Int32) (σ' : Sg), XI V σ' → FX (fun id => (53 ≤ id ∧ id ≤ 63)) (fun _ _ => False) σ0 σ' → (F_X11_item a1 a2 a3 σ0 = (r, σ')) → Qk r σ') : K_X11_item l V a1 a2 a3 σ0 Qk := by
  refine e_X11_item (fun M hl hV hN C => ?_)
  subst hl
  subst hV
  obtain ⟨R9, H0⟩ : ∃ R9, F_X11_item a1 a2 a3 σ0 = R9 := ⟨_, rfl⟩
  have f0 : FX (fun id => (53 ≤ id ∧ id ≤ 63)) (fun _ _ => False) σ0 σ0 := FX_rf
  have H := H0
  unfold F_X11_item at H
  refine s_X11_item_0 C hN  ?_
  refine kF_X11_isTape  m0   (fun r2 σ1 mσ1 cσ1 plσ1 phσ1 (pσ1_0 : (r2.toInt = 1 ∧ 0 ≤ a1.toInt ∧ a1.toInt ≤ 5) ∨ (r2.toInt = 0 ∧ (a1.toInt < 0 ∨ 5 < a1.toInt))) hσ1 => ?_)
  obtain rfl := FX_nil cσ1
  replace H := f_b hσ1 H
  refine ⟨?_, ?_⟩
  · intro q_1
    replace H := f_f q_1 H
    have b_2 : ¬ r2.toInt = 0 := fun h9 => q_1 (Int32.toInt_inj.mp h9)
    have w_3 := Int32.toInt_lt a1
    have w_4 := Int32.le_toInt a1
    have hv_5 : vp_in a1 6 := vp_in_iff.mpr ⟨by omega, by omega⟩
    refine ⟨hv_5, ?_⟩
    have ec_6 := cl_eq (x := a1) (by omega)
    refine kF_X9_isEmpty (isT_of hv_5) m0   (fun r6 σ5 mσ5 cσ5 plσ5 phσ5 hσ5 => ?_)
    obtain rfl := FX_nil cσ5
    replace H := f_b hσ5 H
    refine ⟨?_, ?_⟩
    · intro q_7
      replace H := f_t q_7 H
      have b_8 : r6.toInt = 0 := congrArg Int32.toInt q_7
      have tz_9 := XI_c1 m0 (lim_T0_2 (isT_of hv_5))
      refine kF_X9_has (isT_of hv_5) m0   (fun r9 σ8 mσ8 cσ8 plσ8 phσ8 (pσ8_0 : (r9.toInt = 1 ∧ 0 ≤ a2.toInt ∧ a2.toInt < (gi σ0 (52 + 2 * a1.toNatClampNeg) 2).toInt) ∨ r9.toInt = 0) hσ8 => ?_)
      obtain rfl := FX_nil cσ8
      replace H := f_b hσ8 H
      refine ⟨?_, ?_⟩
      · intro q_10
        replace H := f_f q_10 H
        have b_11 : ¬ r9.toInt = 0 := fun h9 => q_10 (Int32.toInt_inj.mp h9)
        refine kF_X9_cut (isT_of hv_5) m0   (fun r12 σ11 mσ11 cσ11 hσ11 => ?_)
        obtain rfl := FX_nil cσ11
        replace H := f_b hσ11 H
        have w_12 := Int32.toInt_lt a2
        have w_13 := Int32.le_toInt a2
        have hv_14 : vp_in a2 60 := vp_in_iff.mpr ⟨by omega, by omega⟩
        refine ⟨hv_14, ?_⟩
        intro σ14 eσ14
        replace H := f_l eσ14 H
        have mσ14 : XI (mV M) σ14 := by rw [eσ14]; exact XIs_l m0
        have fσ14 : FX (fun id => (53 ≤ id ∧ id ≤ 63)) (fun _ _ => False) σ0 σ14 := by rw [eσ14]; exact FX_sl f0 ((show (53 ≤ 52 + 2 * a1.toNatClampNeg + 1 ∧ 52 + 2 * a1.toNatClampNeg + 1 ≤ 63) from ⟨by omega, by omega⟩))
        have z_15 : (1 : Int32).toInt = 1 := rfl
        exact h9ret (1 : Int32) σ14 mσ14 fσ14 (H0.trans H.symm)
      · intro q_10
        replace H := f_t q_10 H
        have b_16 : r9.toInt = 0 := congrArg Int32.toInt q_10
        have z_17 : (-13 : Int32).toInt = -13 := rfl
        exact h9ret (-13 : Int32) σ0 m0 f0 (H0.trans H.symm)
    · intro q_7
      replace H := f_f q_7 H
      have b_18 : ¬ r6.toInt = 0 := fun h9 => q_7 (Int32.toInt_inj.mp h9)
      have z_19 : (-11 : Int32).toInt = -11 := rfl
      exact h9ret (-11 : Int32) σ0 m0 f0 (H0.trans H.symm)
  · intro q_1
    replace H := f_t q_1 H
    have b_20 : r2.toInt = 0 := congrArg Int32.toInt q_1
    have z_21 : (-1 : Int32).toInt = -1 := rfl
    exact h9ret (-1 : Int32) σ0 m0 f0 (H0.trans H.symm)
noncomputable def F_X11_read (a1 : Int32) (a2 : Int32) (σ : Sg) : Int64 × Sg := fb (F_X11_isTape a1 σ) (fun r2 σ1 => (if r2 = 0 then ((-9223372036854775808 : Int64), σ1) else fb (F_X9_has (52 + 2 * a1.toNatClampNeg) a2 σ1) (fun r6 σ5 => (if r6 = 0 then ((-9223372036854775808 : Int64), σ5) else (gl σ5 ((52 + 2 * a1.toNatClampNeg) + 1) a2.toNatClampNeg, σ5)))))
set_option maxRecDepth 100000 in
set_option maxHeartbeats 4000000 in
theorem kF_X11_read {l : Launch} {V : Vx} {a1 : Int32} {a2 : Int32} {σ0 : Sg} {Qk : Int64 → Sg → Prop} (m0 : XI V σ0) (h9ret : ∀ (r : Int64) (σ' : Sg), XI V σ' → FX (fun id => False) (fun _ _ => False) σ0 σ' → (F_X11_read a1 a2 σ0 = (r, σ')) → Qk r σ') : K_X11_read l V a1 a2 σ0 Qk := by
  refine e_X11_read (fun M hl hV hN C => ?_)
  subst hl
  subst hV
  obtain ⟨R9, H0⟩ : ∃ R9, F_X11_read a1 a2 σ0 = R9 := ⟨_, rfl⟩
  have f0 : FX (fun id => False) (fun _ _ => False) σ0 σ0 := FX_rf
  have H := H0
  unfold F_X11_read at H
  refine s_X11_read_0 C hN  ?_
  refine kF_X11_isTape  m0   (fun r2 σ1 mσ1 cσ1 plσ1 phσ1 (pσ1_0 : (r2.toInt = 1 ∧ 0 ≤ a1.toInt ∧ a1.toInt ≤ 5) ∨ (r2.toInt = 0 ∧ (a1.toInt < 0 ∨ 5 < a1.toInt))) hσ1 => ?_)
  obtain rfl := FX_nil cσ1
  replace H := f_b hσ1 H
  refine ⟨?_, ?_⟩
  · intro q_1
    replace H := f_t q_1 H
    have b_2 : r2.toInt = 0 := congrArg Int32.toInt q_1
    exact h9ret (-9223372036854775808 : Int64) σ0 m0 f0 (H0.trans H.symm)
  · intro q_1
    replace H := f_f q_1 H
    have b_3 : ¬ r2.toInt = 0 := fun h9 => q_1 (Int32.toInt_inj.mp h9)
    have w_4 := Int32.toInt_lt a1
    have w_5 := Int32.le_toInt a1
    have hv_6 : vp_in a1 6 := vp_in_iff.mpr ⟨by omega, by omega⟩
    refine ⟨hv_6, ?_⟩
    have ec_7 := cl_eq (x := a1) (by omega)
    have tz_8 := XI_c1 m0 (lim_T0_2 (isT_of hv_6))
    refine kF_X9_has (isT_of hv_6) m0   (fun r6 σ5 mσ5 cσ5 plσ5 phσ5 (pσ5_0 : (r6.toInt = 1 ∧ 0 ≤ a2.toInt ∧ a2.toInt < (gi σ0 (52 + 2 * a1.toNatClampNeg) 2).toInt) ∨ r6.toInt = 0) hσ5 => ?_)
    obtain rfl := FX_nil cσ5
    replace H := f_b hσ5 H
    refine ⟨?_, ?_⟩
    · intro q_9
      replace H := f_t q_9 H
      have b_10 : r6.toInt = 0 := congrArg Int32.toInt q_9
      exact h9ret (-9223372036854775808 : Int64) σ0 m0 f0 (H0.trans H.symm)
    · intro q_9
      replace H := f_f q_9 H
      have b_11 : ¬ r6.toInt = 0 := fun h9 => q_9 (Int32.toInt_inj.mp h9)
      refine ⟨hv_6, ?_⟩
      have ec_12 := cl_eq (x := a1) (by omega)
      have w_13 := Int32.toInt_lt a2
      have w_14 := Int32.le_toInt a2
      have hv_15 : vp_in a2 60 := vp_in_iff.mpr ⟨by omega, by omega⟩
      refine ⟨hv_15, ?_⟩
      exact h9ret (gl σ0 ((52 + 2 * a1.toNatClampNeg) + 1) a2.toNatClampNeg) σ0 m0 f0 (H0.trans H.symm)
noncomputable def F_X11_shift (a1 : Int32) (a2 : Int32) (a3 : Int32) (a4 : Int32) (a5 : Int32) (σ : Sg) : Int32 × Sg := fb (F_X11_isTape a1 σ) (fun r2 σ1 => (if r2 = 0 then ((-1 : Int32), σ1) else fb (F_X11_isTape a3 σ1) (fun r5 σ4 => (if r5 = 0 then ((-1 : Int32), σ4) else fb (F_X9_isEmpty (52 + 2 * a1.toNatClampNeg) σ4) (fun r10 σ9 => (if r10 = 0 then fb (F_X9_isEmpty (52 + 2 * a3.toNatClampNeg) σ9) (fun r13 σ12 => (if r13 = 0 then (if (gi σ12 (52 + 2 * a1.toNatClampNeg) 1) = (gi σ12 (52 + 2 * a3.toNatClampNeg) 1) then fb (F_X9_hasPart (52 + 2 * a1.toNatClampNeg) a2 a5 σ12) (fun r17 σ16 => (if r17 = 0 then ((-13 : Int32), σ16) else fb (F_X9_hasPart (52 + 2 * a3.toNatClampNeg) a4 a5 σ16) (fun r20 σ19 => (if r20 = 0 then ((-13 : Int32), σ19) else fl (sla σ19 ((52 + 2 * a3.toNatClampNeg) + 1) (va_cpy (σ19.2.1 ((52 + 2 * a1.toNatClampNeg) + 1)) (σ19.2.1 ((52 + 2 * a3.toNatClampNeg) + 1)) a2.toNatClampNeg a4.toNatClampNeg a5.toNatClampNeg)) (fun σ22 => (a5, σ22)))))) else ((-12 : Int32), σ12)) else ((-11 : Int32), σ12))) else ((-11 : Int32), σ9)))))))
set_option maxRecDepth 100000 in
set_option maxHeartbeats 4000000 in
theorem kF_X11_shift {l : Launch} {V : Vx} {a1 : Int32} {a2 : Int32} {a3 : Int32} {a4 : Int32} {a5 : Int32} {σ0 : Sg} {Qk : Int32 → Sg → Prop} (m0 : XI V σ0) (h9ret : ∀ (r : Int32) (σ' : Sg), XI V σ' → FX (fun id => (53 ≤ id ∧ id ≤ 63)) (fun _ _ => False) σ0 σ' → (F_X11_shift a1 a2 a3 a4 a5 σ0 = (r, σ')) → Qk r σ') : K_X11_shift l V a1 a2 a3 a4 a5 σ0 Qk := by
  refine e_X11_shift (fun M hl hV hN C => ?_)
  subst hl
  subst hV
  obtain ⟨R9, H0⟩ : ∃ R9, F_X11_shift a1 a2 a3 a4 a5 σ0 = R9 := ⟨_, rfl⟩
  have f0 : FX (fun id => (53 ≤ id ∧ id ≤ 63)) (fun _ _ => False) σ0 σ0 := FX_rf
  have H := H0
  unfold F_X11_shift at H
  refine s_X11_shift_0 C hN  ?_
  refine kF_X11_isTape  m0   (fun r2 σ1 mσ1 cσ1 plσ1 phσ1 (pσ1_0 : (r2.toInt = 1 ∧ 0 ≤ a1.toInt ∧ a1.toInt ≤ 5) ∨ (r2.toInt = 0 ∧ (a1.toInt < 0 ∨ 5 < a1.toInt))) hσ1 => ?_)
  obtain rfl := FX_nil cσ1
  replace H := f_b hσ1 H
  refine ⟨?_, ?_⟩
  · intro q_1
    replace H := f_t q_1 H
    have b_2 : r2.toInt = 0 := congrArg Int32.toInt q_1
    have z_3 : (-1 : Int32).toInt = -1 := rfl
    exact h9ret (-1 : Int32) σ0 m0 f0 (H0.trans H.symm)
  · intro q_1
    replace H := f_f q_1 H
    have b_4 : ¬ r2.toInt = 0 := fun h9 => q_1 (Int32.toInt_inj.mp h9)
    refine kF_X11_isTape  m0   (fun r5 σ4 mσ4 cσ4 plσ4 phσ4 (pσ4_0 : (r5.toInt = 1 ∧ 0 ≤ a3.toInt ∧ a3.toInt ≤ 5) ∨ (r5.toInt = 0 ∧ (a3.toInt < 0 ∨ 5 < a3.toInt))) hσ4 => ?_)
    obtain rfl := FX_nil cσ4
    replace H := f_b hσ4 H
    refine ⟨?_, ?_⟩
    · intro q_5
      replace H := f_f q_5 H
      have b_6 : ¬ r5.toInt = 0 := fun h9 => q_5 (Int32.toInt_inj.mp h9)
      have w_7 := Int32.toInt_lt a1
      have w_8 := Int32.le_toInt a1
      have hv_9 : vp_in a1 6 := vp_in_iff.mpr ⟨by omega, by omega⟩
      refine ⟨hv_9, ?_⟩
      have ec_10 := cl_eq (x := a1) (by omega)
      have w_11 := Int32.toInt_lt a3
      have w_12 := Int32.le_toInt a3
      have hv_13 : vp_in a3 6 := vp_in_iff.mpr ⟨by omega, by omega⟩
      refine ⟨hv_13, ?_⟩
      have ec_14 := cl_eq (x := a3) (by omega)
      refine kF_X9_isEmpty (isT_of hv_9) m0   (fun r10 σ9 mσ9 cσ9 plσ9 phσ9 hσ9 => ?_)
      obtain rfl := FX_nil cσ9
      replace H := f_b hσ9 H
      refine ⟨?_, ?_⟩
      · intro q_15
        replace H := f_f q_15 H
        have b_16 : ¬ r10.toInt = 0 := fun h9 => q_15 (Int32.toInt_inj.mp h9)
        have z_17 : (-11 : Int32).toInt = -11 := rfl
        exact h9ret (-11 : Int32) σ0 m0 f0 (H0.trans H.symm)
      · intro q_15
        replace H := f_t q_15 H
        have b_18 : r10.toInt = 0 := congrArg Int32.toInt q_15
        refine kF_X9_isEmpty (isT_of hv_13) m0   (fun r13 σ12 mσ12 cσ12 plσ12 phσ12 hσ12 => ?_)
        obtain rfl := FX_nil cσ12
        replace H := f_b hσ12 H
        refine ⟨?_, ?_⟩
        · intro q_19
          replace H := f_t q_19 H
          have b_20 : r13.toInt = 0 := congrArg Int32.toInt q_19
          refine ⟨?_, ?_⟩
          · intro q_21
            replace H := f_t q_21 H
            have b_22 : (gi σ0 (52 + (2 * a1.toNatClampNeg)) 1).toInt = (gi σ0 (52 + (2 * a3.toNatClampNeg)) 1).toInt := congrArg Int32.toInt q_21
            have tz_23 := XI_c1 m0 (lim_T0_2 (isT_of hv_9))
            refine kF_X9_hasPart (isT_of hv_9) m0   (fun r17 σ16 mσ16 cσ16 plσ16 phσ16 (pσ16_0 : (r17.toInt = 1 ∧ 0 ≤ a2.toInt ∧ 0 ≤ a5.toInt ∧ a2.toInt + a5.toInt ≤ (gi σ0 (52 + 2 * a1.toNatClampNeg) 2).toInt) ∨ r17.toInt = 0) hσ16 => ?_)
            obtain rfl := FX_nil cσ16
            replace H := f_b hσ16 H
            refine ⟨?_, ?_⟩
            · intro q_24
              replace H := f_t q_24 H
              have b_25 : r17.toInt = 0 := congrArg Int32.toInt q_24
              have z_26 : (-13 : Int32).toInt = -13 := rfl
              exact h9ret (-13 : Int32) σ0 m0 f0 (H0.trans H.symm)
            · intro q_24
              replace H := f_f q_24 H
              have b_27 : ¬ r17.toInt = 0 := fun h9 => q_24 (Int32.toInt_inj.mp h9)
              have tz_28 := XI_c1 m0 (lim_T0_2 (isT_of hv_13))
              refine kF_X9_hasPart (isT_of hv_13) m0   (fun r20 σ19 mσ19 cσ19 plσ19 phσ19 (pσ19_0 : (r20.toInt = 1 ∧ 0 ≤ a4.toInt ∧ 0 ≤ a5.toInt ∧ a4.toInt + a5.toInt ≤ (gi σ0 (52 + 2 * a3.toNatClampNeg) 2).toInt) ∨ r20.toInt = 0) hσ19 => ?_)
              obtain rfl := FX_nil cσ19
              replace H := f_b hσ19 H
              refine ⟨?_, ?_⟩
              · intro q_29
                replace H := f_f q_29 H
                have b_30 : ¬ r20.toInt = 0 := fun h9 => q_29 (Int32.toInt_inj.mp h9)
                have w_31 := Int32.toInt_lt a2
                have w_32 := Int32.le_toInt a2
                have w_33 := Int32.toInt_lt a4
                have w_34 := Int32.le_toInt a4
                have w_35 := Int32.toInt_lt a5
                have w_36 := Int32.le_toInt a5
                have z_37 := cl_eq (x := a2) (by first | decide | omega)
                have z_38 := cl_eq (x := a4) (by first | decide | omega)
                have z_39 := cl_eq (x := a5) (by first | decide | omega)
                refine ⟨⟨(fun h9 => by have h8 := Int32.lt_iff_toInt_lt.mp h9; have h7 : (0 : Int32).toInt = 0 := rfl; omega), (fun h9 => by have h8 := Int32.lt_iff_toInt_lt.mp h9; have h7 : (0 : Int32).toInt = 0 := rfl; omega), (fun h9 => by have h8 := Int32.lt_iff_toInt_lt.mp h9; have h7 : (0 : Int32).toInt = 0 := rfl; omega), by omega, by omega⟩, ?_⟩
                intro σ22 eσ22
                replace H := f_l eσ22 H
                have mσ22 : XI (mV M) σ22 := by rw [eσ22]; exact XIs_la m0
                have fσ22 : FX (fun id => (53 ≤ id ∧ id ≤ 63)) (fun _ _ => False) σ0 σ22 := by rw [eσ22]; exact FX_sla f0 ((show (53 ≤ 52 + 2 * a3.toNatClampNeg + 1 ∧ 52 + 2 * a3.toNatClampNeg + 1 ≤ 63) from ⟨by omega, by omega⟩))
                have k_40 : (gi σ22 (52 + 2 * a1.toNatClampNeg) 1).toInt = (gi σ0 (52 + 2 * a1.toNatClampNeg) 1).toInt := by rw [eσ22]; rfl
                have k_41 : (gi σ22 (52 + 2 * a3.toNatClampNeg) 1).toInt = (gi σ0 (52 + 2 * a3.toNatClampNeg) 1).toInt := by rw [eσ22]; rfl
                exact h9ret a5 σ22 mσ22 fσ22 (H0.trans H.symm)
              · intro q_29
                replace H := f_t q_29 H
                have b_42 : r20.toInt = 0 := congrArg Int32.toInt q_29
                have z_43 : (-13 : Int32).toInt = -13 := rfl
                exact h9ret (-13 : Int32) σ0 m0 f0 (H0.trans H.symm)
          · intro q_21
            replace H := f_f q_21 H
            have b_44 : ¬ (gi σ0 (52 + (2 * a1.toNatClampNeg)) 1).toInt = (gi σ0 (52 + (2 * a3.toNatClampNeg)) 1).toInt := fun h9 => q_21 (Int32.toInt_inj.mp h9)
            have z_45 : (-12 : Int32).toInt = -12 := rfl
            exact h9ret (-12 : Int32) σ0 m0 f0 (H0.trans H.symm)
        · intro q_19
          replace H := f_f q_19 H
          have b_46 : ¬ r13.toInt = 0 := fun h9 => q_19 (Int32.toInt_inj.mp h9)
          have z_47 : (-11 : Int32).toInt = -11 := rfl
          exact h9ret (-11 : Int32) σ0 m0 f0 (H0.trans H.symm)
    · intro q_5
      replace H := f_t q_5 H
      have b_48 : r5.toInt = 0 := congrArg Int32.toInt q_5
      have z_49 : (-1 : Int32).toInt = -1 := rfl
      exact h9ret (-1 : Int32) σ0 m0 f0 (H0.trans H.symm)
noncomputable def F_X12_in (a1 : Int32) (a2 : Int32) (a3 : Int32) (σ : Sg) : Int32 × Sg := (if a1 < a2 then ((0 : Int32), σ) else (if a3 < a1 then ((0 : Int32), σ) else ((1 : Int32), σ)))
set_option maxRecDepth 100000 in
set_option maxHeartbeats 4000000 in
theorem kF_X12_in {l : Launch} {V : Vx} {a1 : Int32} {a2 : Int32} {a3 : Int32} {σ0 : Sg} {Qk : Int32 → Sg → Prop} (m0 : MI σ0) (h9ret : ∀ (r : Int32) (σ' : Sg), MI σ' → Fr [] [] σ0 σ' → (0 ≤ r.toInt) → (r.toInt ≤ 1) → ((r.toInt = 1 ∧ a2.toInt ≤ a1.toInt ∧ a1.toInt ≤ a3.toInt) ∨ (r.toInt = 0 ∧ (a1.toInt < a2.toInt ∨ a3.toInt < a1.toInt))) → (F_X12_in a1 a2 a3 σ0 = (r, σ')) → Qk r σ') : K_X12_in l V a1 a2 a3 σ0 Qk := by
  refine e_X12_in (fun M hl hV hN C => ?_)
  subst hl
  subst hV
  obtain ⟨R9, H0⟩ : ∃ R9, F_X12_in a1 a2 a3 σ0 = R9 := ⟨_, rfl⟩
  have f0 : Fr [] [] σ0 σ0 := Fr_rf
  have H := H0
  unfold F_X12_in at H
  refine s_X12_in_0 C hN ?_
  refine ⟨?_, ?_⟩
  · intro q_1
    replace H := f_t q_1 H
    have w_2 := Int32.toInt_lt a1
    have w_3 := Int32.le_toInt a1
    have w_4 := Int32.toInt_lt a2
    have w_5 := Int32.le_toInt a2
    have b_6 : a1.toInt < a2.toInt := Int32.lt_iff_toInt_lt.mp q_1
    have z_7 : (0 : Int32).toInt = 0 := rfl
    exact h9ret (0 : Int32) σ0 m0 f0 (by omega) (by omega) (by first | with_reducible assumption | with_reducible rfl | omega | assumption | rfl) (H0.trans H.symm)
  · intro q_1
    replace H := f_f q_1 H
    have w_8 := Int32.toInt_lt a1
    have w_9 := Int32.le_toInt a1
    have w_10 := Int32.toInt_lt a2
    have w_11 := Int32.le_toInt a2
    have b_12 : ¬ a1.toInt < a2.toInt := fun h9 => q_1 (Int32.lt_iff_toInt_lt.mpr h9)
    refine ⟨?_, ?_⟩
    · intro q_13
      replace H := f_t q_13 H
      have w_14 := Int32.toInt_lt a3
      have w_15 := Int32.le_toInt a3
      have b_16 : a3.toInt < a1.toInt := Int32.lt_iff_toInt_lt.mp q_13
      have z_17 : (0 : Int32).toInt = 0 := rfl
      exact h9ret (0 : Int32) σ0 m0 f0 (by omega) (by omega) (by first | with_reducible assumption | with_reducible rfl | omega | assumption | rfl) (H0.trans H.symm)
    · intro q_13
      replace H := f_f q_13 H
      have w_18 := Int32.toInt_lt a3
      have w_19 := Int32.le_toInt a3
      have b_20 : ¬ a3.toInt < a1.toInt := fun h9 => q_13 (Int32.lt_iff_toInt_lt.mpr h9)
      have z_21 : (1 : Int32).toInt = 1 := rfl
      exact h9ret (1 : Int32) σ0 m0 f0 (by omega) (by omega) (by first | with_reducible assumption | with_reducible rfl | omega | assumption | rfl) (H0.trans H.symm)
noncomputable def F_X12_isTape (a1 : Int32) (σ : Sg) : Int32 × Sg := fb (F_X12_in a1 (0 : Int32) (5 : Int32) σ) (fun r2 σ1 => (r2, σ1))
set_option maxRecDepth 100000 in
set_option maxHeartbeats 4000000 in
theorem kF_X12_isTape {l : Launch} {V : Vx} {a1 : Int32} {σ0 : Sg} {Qk : Int32 → Sg → Prop} (m0 : MI σ0) (h9ret : ∀ (r : Int32) (σ' : Sg), MI σ' → Fr [] [] σ0 σ' → (0 ≤ r.toInt) → (r.toInt ≤ 1) → ((r.toInt = 1 ∧ 0 ≤ a1.toInt ∧ a1.toInt ≤ 5) ∨ (r.toInt = 0 ∧ (a1.toInt < 0 ∨ 5 < a1.toInt))) → (F_X12_isTape a1 σ0 = (r, σ')) → Qk r σ') : K_X12_isTape l V a1 σ0 Qk := by
  refine e_X12_isTape (fun M hl hV hN C => ?_)
  subst hl
  subst hV
  obtain ⟨R9, H0⟩ : ∃ R9, F_X12_isTape a1 σ0 = R9 := ⟨_, rfl⟩
  have f0 : Fr [] [] σ0 σ0 := Fr_rf
  have H := H0
  unfold F_X12_isTape at H
  refine s_X12_isTape_0 C hN ?_
  refine kF_X12_in m0  (fun r2 σ1 mσ1 cσ1 plσ1 phσ1 (pσ1_0 : (r2.toInt = 1 ∧ (0 : Int) ≤ a1.toInt ∧ a1.toInt ≤ (5 : Int)) ∨ (r2.toInt = 0 ∧ (a1.toInt < (0 : Int) ∨ (5 : Int) < a1.toInt))) hσ1 => ?_)
  obtain rfl := Fr_nil cσ1
  replace H := f_b hσ1 H
  refine ⟨i_bool (by omega) (by omega), ?_⟩
  exact h9ret r2 σ0 m0 f0 (by omega) (by omega) (by first | with_reducible assumption | with_reducible rfl | omega | assumption | rfl) (H0.trans H.symm)
noncomputable def F_X12_narrow (a1 : Int32) (a2 : Int64) (σ : Sg) : Int64 × Sg := (if a1 = 0 then (a2.toInt32.toInt8.toInt32.toInt64, σ) else (if a1 = (1 : Int32) then (a2.toInt32.toInt16.toInt32.toInt64, σ) else (if a1 = (2 : Int32) then (a2.toInt32.toInt64, σ) else (if a1 = (4 : Int32) then (if (lg_cmp a2 (0 : Int64)) = 0 then ((0 : Int64), σ) else ((1 : Int64), σ)) else (a2, σ)))))
set_option maxRecDepth 100000 in
set_option maxHeartbeats 4000000 in
theorem kF_X12_narrow {l : Launch} {V : Vx} {a1 : Int32} {a2 : Int64} {σ0 : Sg} {Qk : Int64 → Sg → Prop} (m0 : MI σ0) (h9ret : ∀ (r : Int64) (σ' : Sg), MI σ' → Fr [] [] σ0 σ' → (F_X12_narrow a1 a2 σ0 = (r, σ')) → Qk r σ') : K_X12_narrow l V a1 a2 σ0 Qk := by
  refine e_X12_narrow (fun M hl hV hN C => ?_)
  subst hl
  subst hV
  obtain ⟨R9, H0⟩ : ∃ R9, F_X12_narrow a1 a2 σ0 = R9 := ⟨_, rfl⟩
  have f0 : Fr [] [] σ0 σ0 := Fr_rf
  have H := H0
  unfold F_X12_narrow at H
  refine s_X12_narrow_0 C hN ?_
  refine ⟨?_, ?_⟩
  · intro q_1
    replace H := f_f q_1 H
    have w_2 := Int32.toInt_lt a1
    have w_3 := Int32.le_toInt a1
    have b_4 : ¬ a1.toInt = 0 := fun h9 => q_1 (Int32.toInt_inj.mp h9)
    refine ⟨?_, ?_⟩
    · intro q_5
      replace H := f_f q_5 H
      have b_6 : ¬ a1.toInt = 1 := fun h9 => q_5 (Int32.toInt_inj.mp h9)
      refine ⟨?_, ?_⟩
      · intro q_7
        replace H := f_f q_7 H
        have b_8 : ¬ a1.toInt = 2 := fun h9 => q_7 (Int32.toInt_inj.mp h9)
        refine ⟨?_, ?_⟩
        · intro q_9
          replace H := f_f q_9 H
          have b_10 : ¬ a1.toInt = 4 := fun h9 => q_9 (Int32.toInt_inj.mp h9)
          exact h9ret a2 σ0 m0 f0 (H0.trans H.symm)
        · intro q_9
          replace H := f_t q_9 H
          have b_11 : a1.toInt = 4 := congrArg Int32.toInt q_9
          refine ⟨?_, ?_⟩
          · intro q_12
            replace H := f_t q_12 H
            exact h9ret (0 : Int64) σ0 m0 f0 (H0.trans H.symm)
          · intro q_12
            replace H := f_f q_12 H
            exact h9ret (1 : Int64) σ0 m0 f0 (H0.trans H.symm)
      · intro q_7
        replace H := f_t q_7 H
        have b_13 : a1.toInt = 2 := congrArg Int32.toInt q_7
        exact h9ret a2.toInt32.toInt64 σ0 m0 f0 (H0.trans H.symm)
    · intro q_5
      replace H := f_t q_5 H
      have b_14 : a1.toInt = 1 := congrArg Int32.toInt q_5
      exact h9ret a2.toInt32.toInt16.toInt32.toInt64 σ0 m0 f0 (H0.trans H.symm)
  · intro q_1
    replace H := f_t q_1 H
    have w_15 := Int32.toInt_lt a1
    have w_16 := Int32.le_toInt a1
    have b_17 : a1.toInt = 0 := congrArg Int32.toInt q_1
    exact h9ret a2.toInt32.toInt8.toInt32.toInt64 σ0 m0 f0 (H0.trans H.symm)
noncomputable def LB_X12_tape_44 (rec : Nat → Int32 → Int32 → Int32 → Int32 → Sg → Int32 × Sg) (x1 : Int32) (x2 : Int32) (x3 : Int32) (σ : Sg) : Int32 × Sg := fl (si σ 171 x1.toNatClampNeg x2) (fun σ2 => (if 0 ≤ x2 then fl (si σ2 172 x1.toNatClampNeg x3) (fun σ5 => rec 1 x1 0 0 (0 : Int32) σ5) else fl (si σ2 172 x1.toNatClampNeg (0 : Int32)) (fun σ7 => rec 1 x1 0 0 (0 : Int32) σ7)))
noncomputable def LB_X12_tape_69 (rec : Nat → Int32 → Int32 → Int32 → Int32 → Sg → Int32 × Sg) (x1 : Int32) (x4 : Int32) (σ : Sg) : Int32 × Sg := (if (60 : Int32) ≤ x4 then ((1 : Int32), σ) else fl (sl σ 173 (((60 : Int32) * x1) + x4).toNatClampNeg (0 : Int64)) (fun σ3 => fl (x4 + 1) (fun v4 => rec 1 x1 0 0 v4 σ3)))
noncomputable def LF_X12_tape : Nat → Nat → Int32 → Int32 → Int32 → Int32 → Sg → Int32 × Sg
  | 0, _, _, _, _, _, σ => (0, σ)
  | n + 1, 0, x1, x2, x3, _, σ => LB_X12_tape_44 (LF_X12_tape n) x1 x2 x3 σ
  | n + 1, 1, x1, _, _, x4, σ => LB_X12_tape_69 (LF_X12_tape n) x1 x4 σ
  | _ + 1, _ + 2, _, _, _, _, σ => (0, σ)
noncomputable def F_X12_tape (a1 : Int32) (a2 : Int32) (a3 : Int32) (σ : Sg) : Int32 × Sg := fb (F_X12_isTape a1 σ) (fun r2 σ1 => (if r2 = 0 then ((-1 : Int32), σ1) else fb (F_X12_in a2 (-1 : Int32) (4 : Int32) σ1) (fun r5 σ4 => (if r5 = 0 then ((-2 : Int32), σ4) else (if a2 < 0 then (if a2 < 0 then LF_X12_tape 200 0 a1 a2 a3 0 σ4 else (if 0 ≤ a3 then LF_X12_tape 200 0 a1 a2 a3 0 σ4 else ((-14 : Int32), σ4))) else (if a3 ≤ (60 : Int32) then (if a2 < 0 then LF_X12_tape 200 0 a1 a2 a3 0 σ4 else (if 0 ≤ a3 then LF_X12_tape 200 0 a1 a2 a3 0 σ4 else ((-14 : Int32), σ4))) else ((-2 : Int32), σ4)))))))
set_option maxRecDepth 100000 in
set_option maxHeartbeats 4000000 in
theorem kF_X12_tape {l : Launch} {V : Vx} {a1 : Int32} {a2 : Int32} {a3 : Int32} {σ0 : Sg} {Qk : Int32 → Sg → Prop} (m0 : MI σ0) (h9ret : ∀ (r : Int32) (σ' : Sg), MI σ' → Fr [171, 172, 173] [] σ0 σ' → (F_X12_tape a1 a2 a3 σ0 = (r, σ')) → Qk r σ') : K_X12_tape l V a1 a2 a3 σ0 Qk := by
  refine e_X12_tape (fun M hl hV hN C => ?_)
  subst hl
  subst hV
  obtain ⟨R9, H0⟩ : ∃ R9, F_X12_tape a1 a2 a3 σ0 = R9 := ⟨_, rfl⟩
  have T : ∀ n : Nat, (∀ (x1 : Int32) (x2 : Int32) (x3 : Int32) (σ : Sg), MI σ → Fr [171, 172, 173] [] σ0 σ → (0 ≤ x1.toInt) → (x1.toInt ≤ 5) → (-1 ≤ x2.toInt) → (x2.toInt ≤ 4) → (x2.toInt < 0 ∨ (0 ≤ x3.toInt ∧ x3.toInt ≤ 60)) → (LF_X12_tape n 0 x1 x2 x3 0 σ = R9) → 100 < n → PS M 44 [(0, .ref 74), (1, .int x1), (2, .int x2), (3, .int x3)] [] σ (0, 0)) ∧ (∀ (x1 : Int32) (x4 : Int32) (σ : Sg), MI σ → Fr [171, 172, 173] [] σ0 σ → (0 ≤ x1.toInt) → (x1.toInt ≤ 5) → (0 ≤ x4.toInt) → (x4.toInt ≤ 60) → (LF_X12_tape n 1 x1 0 0 x4 σ = R9) → (61 - x4.toInt).toNat < n → PS M 69 [(0, .ref 74), (1, .int x1), (4, .int x4)] [] σ (0, 0)) := by
    intro n
    induction n with
    | zero => exact ⟨fun _ _ _ _ _ _ _ _ _ _ _ _ h8 => absurd h8 (Nat.not_lt_zero _), fun _ _ _ _ _ _ _ _ _ _ h8 => absurd h8 (Nat.not_lt_zero _)⟩
    | succ n ih =>
      obtain ⟨ih44, ih69⟩ := ih
      refine ⟨?_, ?_⟩
      · intro x1 x2 x3 σ mσ fσ lx1 ux1 lx2 ux2 i0 H hmu
        replace H : LB_X12_tape_44 (LF_X12_tape n) x1 x2 x3 σ = R9 := H
        unfold LB_X12_tape_44 at H
        refine s_X12_tape_44 C hN ?_
        have hv_1 : vp_in x1 6 := vp_in_iff.mpr ⟨by omega, by omega⟩
        refine ⟨hv_1, ?_⟩
        intro σ2 eσ2
        replace H := f_l eσ2 H
        have mσ2 : MI σ2 := by rw [eσ2]; exact MIs_a171 mσ (by omega) (by omega)
        have fσ2 : Fr [171, 172, 173] [] σ0 σ2 := by rw [eσ2]; exact Fr_si fσ (by decide +kernel) (fun h9 => absurd h9 (by decide +kernel))
        refine ⟨?_, ?_⟩
        · intro q_2
          replace H := f_t q_2 H
          have b_3 : (0 : Int) ≤ x2.toInt := Int32.le_iff_toInt_le.mp q_2
          refine ⟨hv_1, ?_⟩
          intro σ5 eσ5
          replace H := f_l eσ5 H
          have w_4 := Int32.toInt_lt x3
          have w_5 := Int32.le_toInt x3
          have mσ5 : MI σ5 := by rw [eσ5]; exact MIs_a172 mσ2 (by omega) (by omega)
          have fσ5 : Fr [171, 172, 173] [] σ0 σ5 := by rw [eσ5]; exact Fr_si fσ2 (by decide +kernel) (fun h9 => absurd h9 (by decide +kernel))
          have z_6 : (0 : Int32).toInt = 0 := rfl
          exact ih69 x1 (0 : Int32) σ5 mσ5 fσ5 (by omega) (by omega) (by omega) (by omega) H (by omega)
        · intro q_2
          replace H := f_f q_2 H
          have b_7 : ¬ (0 : Int) ≤ x2.toInt := fun h9 => q_2 (Int32.le_iff_toInt_le.mpr h9)
          refine ⟨hv_1, ?_⟩
          intro σ7 eσ7
          replace H := f_l eσ7 H
          have z_8 : (0 : Int32).toInt = 0 := rfl
          have mσ7 : MI σ7 := by rw [eσ7]; exact MIs_a172 mσ2 (by omega) (by omega)
          have fσ7 : Fr [171, 172, 173] [] σ0 σ7 := by rw [eσ7]; exact Fr_si fσ2 (by decide +kernel) (fun h9 => absurd h9 (by decide +kernel))
          exact ih69 x1 (0 : Int32) σ7 mσ7 fσ7 (by omega) (by omega) (by omega) (by omega) H (by omega)
      · intro x1 x4 σ mσ fσ lx1 ux1 lx4 ux4 H hmu
        replace H : LB_X12_tape_69 (LF_X12_tape n) x1 x4 σ = R9 := H
        unfold LB_X12_tape_69 at H
        refine s_X12_tape_69 C hN ?_
        refine ⟨?_, ?_⟩
        · intro q_9
          replace H := f_t q_9 H
          have b_10 : (60 : Int) ≤ x4.toInt := Int32.le_iff_toInt_le.mp q_9
          have z_11 : (1 : Int32).toInt = 1 := rfl
          exact h9ret (1 : Int32) σ mσ fσ (H0.trans H.symm)
        · intro q_9
          replace H := f_f q_9 H
          have b_12 : ¬ (60 : Int) ≤ x4.toInt := fun h9 => q_9 (Int32.le_iff_toInt_le.mpr h9)
          have t_13 : ((60 : Int32) * x1).toInt = 60 * x1.toInt := i_mull rfl (by omega) (by omega)
          have t_14 : (((60 : Int32) * x1) + x4).toInt = ((60 : Int32) * x1).toInt + x4.toInt := i_add (x := ((60 : Int32) * x1)) (y := x4) (by show (_ : Int) ≤ ((60 : Int32) * x1).toInt + x4.toInt; omega) (by show ((60 : Int32) * x1).toInt + x4.toInt ≤ (_ : Int); omega)
          have hv_15 : vp_in (((60 : Int32) * x1) + x4) 360 := vp_in_iff.mpr ⟨by omega, by omega⟩
          refine ⟨hv_15, ?_⟩
          intro σ3 eσ3
          replace H := f_l eσ3 H
          have mσ3 : MI σ3 := by rw [eσ3]; exact MIs_l mσ
          have fσ3 : Fr [171, 172, 173] [] σ0 σ3 := by rw [eσ3]; exact Fr_sl fσ (by decide +kernel)
          intro v4 ev4
          replace H := f_l ev4 H
          have t_16 : (x4 + (1 : Int32)).toInt = x4.toInt + 1 := i_add (x := x4) (y := (1 : Int32)) (by show (_ : Int) ≤ x4.toInt + 1; omega) (by show x4.toInt + 1 ≤ (_ : Int); omega)
          have t_17 : v4.toInt = (x4 + (1 : Int32)).toInt := congrArg Int32.toInt ev4
          exact ih69 x1 v4 σ3 mσ3 fσ3 (by omega) (by omega) (by omega) (by omega) H (by omega)
  obtain ⟨U44, U69⟩ := T 200
  have f0 : Fr [171, 172, 173] [] σ0 σ0 := Fr_rf
  have H := H0
  unfold F_X12_tape at H
  refine s_X12_tape_0 C hN ?_
  refine kF_X12_isTape m0  (fun r2 σ1 mσ1 cσ1 plσ1 phσ1 (pσ1_0 : (r2.toInt = 1 ∧ 0 ≤ a1.toInt ∧ a1.toInt ≤ 5) ∨ (r2.toInt = 0 ∧ (a1.toInt < 0 ∨ 5 < a1.toInt))) hσ1 => ?_)
  obtain rfl := Fr_nil cσ1
  replace H := f_b hσ1 H
  refine ⟨?_, ?_⟩
  · intro q_18
    replace H := f_f q_18 H
    have b_19 : ¬ r2.toInt = 0 := fun h9 => q_18 (Int32.toInt_inj.mp h9)
    refine kF_X12_in m0  (fun r5 σ4 mσ4 cσ4 plσ4 phσ4 (pσ4_0 : (r5.toInt = 1 ∧ ((-1) : Int) ≤ a2.toInt ∧ a2.toInt ≤ (4 : Int)) ∨ (r5.toInt = 0 ∧ (a2.toInt < ((-1) : Int) ∨ (4 : Int) < a2.toInt))) hσ4 => ?_)
    obtain rfl := Fr_nil cσ4
    replace H := f_b hσ4 H
    refine ⟨?_, ?_⟩
    · intro q_20
      replace H := f_t q_20 H
      have b_21 : r5.toInt = 0 := congrArg Int32.toInt q_20
      have z_22 : (-2 : Int32).toInt = -2 := rfl
      exact h9ret (-2 : Int32) σ0 m0 f0 (H0.trans H.symm)
    · intro q_20
      replace H := f_f q_20 H
      have b_23 : ¬ r5.toInt = 0 := fun h9 => q_20 (Int32.toInt_inj.mp h9)
      refine ⟨?_, ?_⟩
      · intro q_24
        replace H := f_t q_24 H
        have w_25 := Int32.toInt_lt a2
        have w_26 := Int32.le_toInt a2
        have b_27 : a2.toInt < 0 := Int32.lt_iff_toInt_lt.mp q_24
        refine ⟨?_, ?_⟩
        · intro q_28
          replace H := f_t q_28 H
          have b_29 : a2.toInt < 0 := Int32.lt_iff_toInt_lt.mp q_28
          exact U44 a1 a2 a3 σ0 m0 f0 (by omega) (by omega) (by omega) (by omega) (by first | with_reducible assumption | with_reducible rfl | omega | assumption | rfl) H (by omega)
        · intro q_28
          replace H := f_f q_28 H
          have b_30 : ¬ a2.toInt < 0 := fun h9 => q_28 (Int32.lt_iff_toInt_lt.mpr h9)
          refine ⟨?_, ?_⟩
          · intro q_31
            replace H := f_t q_31 H
            have w_32 := Int32.toInt_lt a3
            have w_33 := Int32.le_toInt a3
            have b_34 : (0 : Int) ≤ a3.toInt := Int32.le_iff_toInt_le.mp q_31
            exact U44 a1 a2 a3 σ0 m0 f0 (by omega) (by omega) (by omega) (by omega) (by first | with_reducible assumption | with_reducible rfl | omega | assumption | rfl) H (by omega)
          · intro q_31
            replace H := f_f q_31 H
            have w_35 := Int32.toInt_lt a3
            have w_36 := Int32.le_toInt a3
            have b_37 : ¬ (0 : Int) ≤ a3.toInt := fun h9 => q_31 (Int32.le_iff_toInt_le.mpr h9)
            have z_38 : (-14 : Int32).toInt = -14 := rfl
            exact h9ret (-14 : Int32) σ0 m0 f0 (H0.trans H.symm)
      · intro q_24
        replace H := f_f q_24 H
        have w_39 := Int32.toInt_lt a2
        have w_40 := Int32.le_toInt a2
        have b_41 : ¬ a2.toInt < 0 := fun h9 => q_24 (Int32.lt_iff_toInt_lt.mpr h9)
        refine ⟨?_, ?_⟩
        · intro q_42
          replace H := f_t q_42 H
          have w_43 := Int32.toInt_lt a3
          have w_44 := Int32.le_toInt a3
          have b_45 : a3.toInt ≤ 60 := Int32.le_iff_toInt_le.mp q_42
          refine ⟨?_, ?_⟩
          · intro q_46
            replace H := f_t q_46 H
            have b_47 : a2.toInt < 0 := Int32.lt_iff_toInt_lt.mp q_46
            exact U44 a1 a2 a3 σ0 m0 f0 (by omega) (by omega) (by omega) (by omega) (by first | with_reducible assumption | with_reducible rfl | omega | assumption | rfl) H (by omega)
          · intro q_46
            replace H := f_f q_46 H
            have b_48 : ¬ a2.toInt < 0 := fun h9 => q_46 (Int32.lt_iff_toInt_lt.mpr h9)
            refine ⟨?_, ?_⟩
            · intro q_49
              replace H := f_t q_49 H
              have b_50 : (0 : Int) ≤ a3.toInt := Int32.le_iff_toInt_le.mp q_49
              exact U44 a1 a2 a3 σ0 m0 f0 (by omega) (by omega) (by omega) (by omega) (by first | with_reducible assumption | with_reducible rfl | omega | assumption | rfl) H (by omega)
            · intro q_49
              replace H := f_f q_49 H
              have b_51 : ¬ (0 : Int) ≤ a3.toInt := fun h9 => q_49 (Int32.le_iff_toInt_le.mpr h9)
              have z_52 : (-14 : Int32).toInt = -14 := rfl
              exact h9ret (-14 : Int32) σ0 m0 f0 (H0.trans H.symm)
        · intro q_42
          replace H := f_f q_42 H
          have w_53 := Int32.toInt_lt a3
          have w_54 := Int32.le_toInt a3
          have b_55 : ¬ a3.toInt ≤ 60 := fun h9 => q_42 (Int32.le_iff_toInt_le.mpr h9)
          have z_56 : (-2 : Int32).toInt = -2 := rfl
          exact h9ret (-2 : Int32) σ0 m0 f0 (H0.trans H.symm)
  · intro q_18
    replace H := f_t q_18 H
    have b_57 : r2.toInt = 0 := congrArg Int32.toInt q_18
    have z_58 : (-1 : Int32).toInt = -1 := rfl
    exact h9ret (-1 : Int32) σ0 m0 f0 (H0.trans H.symm)
noncomputable def F_X12_item (a1 : Int32) (a2 : Int32) (a3 : Int64) (σ : Sg) : Int32 × Sg := fb (F_X12_isTape a1 σ) (fun r2 σ1 => (if r2 = 0 then ((-1 : Int32), σ1) else (if 0 ≤ (gi σ1 171 a1.toNatClampNeg) then fb (F_X12_in a2 (0 : Int32) ((gi σ1 172 a1.toNatClampNeg) - (1 : Int32)) σ1) (fun r8 σ7 => (if r8 = 0 then ((-13 : Int32), σ7) else fb (F_X12_narrow (gi σ7 171 a1.toNatClampNeg) a3 σ7) (fun r12 σ11 => fl (sl σ11 173 (((60 : Int32) * a1) + a2).toNatClampNeg r12) (fun σ14 => ((1 : Int32), σ14))))) else ((-11 : Int32), σ1))))
set_option maxRecDepth 100000 in
set_option maxHeartbeats 4000000 in
theorem kF_X12_item {l : Launch} {V : Vx} {a1 : Int32} {a2 : Int32} {a3 : Int64} {σ0 : Sg} {Qk : Int32 → Sg → Prop} (m0 : MI σ0) (h9ret : ∀ (r : Int32) (σ' : Sg), MI σ' → Fr [173] [] σ0 σ' → (F_X12_item a1 a2 a3 σ0 = (r, σ')) → Qk r σ') : K_X12_item l V a1 a2 a3 σ0 Qk := by
  refine e_X12_item (fun M hl hV hN C => ?_)
  subst hl
  subst hV
  obtain ⟨R9, H0⟩ : ∃ R9, F_X12_item a1 a2 a3 σ0 = R9 := ⟨_, rfl⟩
  have f0 : Fr [173] [] σ0 σ0 := Fr_rf
  have H := H0
  unfold F_X12_item at H
  refine s_X12_item_0 C hN ?_
  refine kF_X12_isTape m0  (fun r2 σ1 mσ1 cσ1 plσ1 phσ1 (pσ1_0 : (r2.toInt = 1 ∧ 0 ≤ a1.toInt ∧ a1.toInt ≤ 5) ∨ (r2.toInt = 0 ∧ (a1.toInt < 0 ∨ 5 < a1.toInt))) hσ1 => ?_)
  obtain rfl := Fr_nil cσ1
  replace H := f_b hσ1 H
  refine ⟨?_, ?_⟩
  · intro q_1
    replace H := f_f q_1 H
    have b_2 : ¬ r2.toInt = 0 := fun h9 => q_1 (Int32.toInt_inj.mp h9)
    have w_3 := Int32.toInt_lt a1
    have w_4 := Int32.le_toInt a1
    have hv_5 : vp_in a1 6 := vp_in_iff.mpr ⟨by omega, by omega⟩
    refine ⟨hv_5, ?_⟩
    refine ⟨?_, ?_⟩
    · intro q_6
      replace H := f_t q_6 H
      have t_7 := MI_a171 m0 hv_5
      have b_8 : (0 : Int) ≤ (gi σ0 171 a1.toNatClampNeg).toInt := Int32.le_iff_toInt_le.mp q_6
      refine ⟨hv_5, ?_⟩
      have t_9 := MI_a172 m0 hv_5
      have t_10 : ((gi σ0 172 a1.toNatClampNeg) - (1 : Int32)).toInt = (gi σ0 172 a1.toNatClampNeg).toInt - 1 := i_sub (x := (gi σ0 172 a1.toNatClampNeg)) (y := (1 : Int32)) (by show (_ : Int) ≤ (gi σ0 172 a1.toNatClampNeg).toInt - 1; omega) (by show (gi σ0 172 a1.toNatClampNeg).toInt - 1 ≤ (_ : Int); omega)
      refine kF_X12_in m0  (fun r8 σ7 mσ7 cσ7 plσ7 phσ7 (pσ7_0 : (r8.toInt = 1 ∧ (0 : Int) ≤ a2.toInt ∧ a2.toInt ≤ ((gi σ0 172 a1.toNatClampNeg) - (1 : Int32)).toInt) ∨ (r8.toInt = 0 ∧ (a2.toInt < (0 : Int) ∨ ((gi σ0 172 a1.toNatClampNeg) - (1 : Int32)).toInt < a2.toInt))) hσ7 => ?_)
      obtain rfl := Fr_nil cσ7
      replace H := f_b hσ7 H
      refine ⟨?_, ?_⟩
      · intro q_11
        replace H := f_f q_11 H
        have b_12 : ¬ r8.toInt = 0 := fun h9 => q_11 (Int32.toInt_inj.mp h9)
        refine ⟨hv_5, ?_⟩
        refine kF_X12_narrow m0  (fun r12 σ11 mσ11 cσ11 hσ11 => ?_)
        obtain rfl := Fr_nil cσ11
        replace H := f_b hσ11 H
        try have t_13 : ((60 : Int32) * a1).toInt = 60 * a1.toInt := i_mull rfl (by omega) (by omega)
        have w_14 := Int32.toInt_lt a2
        have w_15 := Int32.le_toInt a2
        try have t_16 : (((60 : Int32) * a1) + a2).toInt = ((60 : Int32) * a1).toInt + a2.toInt := i_add (x := ((60 : Int32) * a1)) (y := a2) (by show (_ : Int) ≤ ((60 : Int32) * a1).toInt + a2.toInt; omega) (by show ((60 : Int32) * a1).toInt + a2.toInt ≤ (_ : Int); omega)
        have hv_17 : vp_in (((60 : Int32) * a1) + a2) 360 := vp_in_iff.mpr ⟨by omega, by omega⟩
        refine ⟨hv_17, ?_⟩
        intro σ14 eσ14
        replace H := f_l eσ14 H
        have mσ14 : MI σ14 := by rw [eσ14]; exact MIs_l m0
        have fσ14 : Fr [173] [] σ0 σ14 := by rw [eσ14]; exact Fr_sl f0 (by decide +kernel)
        have z_18 : (1 : Int32).toInt = 1 := rfl
        exact h9ret (1 : Int32) σ14 mσ14 fσ14 (H0.trans H.symm)
      · intro q_11
        replace H := f_t q_11 H
        have b_19 : r8.toInt = 0 := congrArg Int32.toInt q_11
        have z_20 : (-13 : Int32).toInt = -13 := rfl
        exact h9ret (-13 : Int32) σ0 m0 f0 (H0.trans H.symm)
    · intro q_6
      replace H := f_f q_6 H
      have t_21 := MI_a171 m0 hv_5
      have b_22 : ¬ (0 : Int) ≤ (gi σ0 171 a1.toNatClampNeg).toInt := fun h9 => q_6 (Int32.le_iff_toInt_le.mpr h9)
      have z_23 : (-11 : Int32).toInt = -11 := rfl
      exact h9ret (-11 : Int32) σ0 m0 f0 (H0.trans H.symm)
  · intro q_1
    replace H := f_t q_1 H
    have b_24 : r2.toInt = 0 := congrArg Int32.toInt q_1
    have z_25 : (-1 : Int32).toInt = -1 := rfl
    exact h9ret (-1 : Int32) σ0 m0 f0 (H0.trans H.symm)
noncomputable def F_X12_read (a1 : Int32) (a2 : Int32) (σ : Sg) : Int64 × Sg := fb (F_X12_isTape a1 σ) (fun r2 σ1 => (if r2 = 0 then ((-9223372036854775808 : Int64), σ1) else (if (gi σ1 171 a1.toNatClampNeg) < 0 then ((-9223372036854775808 : Int64), σ1) else fb (F_X12_in a2 (0 : Int32) ((gi σ1 172 a1.toNatClampNeg) - (1 : Int32)) σ1) (fun r8 σ7 => (if r8 = 0 then ((-9223372036854775808 : Int64), σ7) else (gl σ7 173 (((60 : Int32) * a1) + a2).toNatClampNeg, σ7))))))
set_option maxRecDepth 100000 in
set_option maxHeartbeats 4000000 in
theorem kF_X12_read {l : Launch} {V : Vx} {a1 : Int32} {a2 : Int32} {σ0 : Sg} {Qk : Int64 → Sg → Prop} (m0 : MI σ0) (h9ret : ∀ (r : Int64) (σ' : Sg), MI σ' → Fr [] [] σ0 σ' → (F_X12_read a1 a2 σ0 = (r, σ')) → Qk r σ') : K_X12_read l V a1 a2 σ0 Qk := by
  refine e_X12_read (fun M hl hV hN C => ?_)
  subst hl
  subst hV
  obtain ⟨R9, H0⟩ : ∃ R9, F_X12_read a1 a2 σ0 = R9 := ⟨_, rfl⟩
  have f0 : Fr [] [] σ0 σ0 := Fr_rf
  have H := H0
  unfold F_X12_read at H
  refine s_X12_read_0 C hN ?_
  refine kF_X12_isTape m0  (fun r2 σ1 mσ1 cσ1 plσ1 phσ1 (pσ1_0 : (r2.toInt = 1 ∧ 0 ≤ a1.toInt ∧ a1.toInt ≤ 5) ∨ (r2.toInt = 0 ∧ (a1.toInt < 0 ∨ 5 < a1.toInt))) hσ1 => ?_)
  obtain rfl := Fr_nil cσ1
  replace H := f_b hσ1 H
  refine ⟨?_, ?_⟩
  · intro q_1
    replace H := f_t q_1 H
    have b_2 : r2.toInt = 0 := congrArg Int32.toInt q_1
    exact h9ret (-9223372036854775808 : Int64) σ0 m0 f0 (H0.trans H.symm)
  · intro q_1
    replace H := f_f q_1 H
    have b_3 : ¬ r2.toInt = 0 := fun h9 => q_1 (Int32.toInt_inj.mp h9)
    have w_4 := Int32.toInt_lt a1
    have w_5 := Int32.le_toInt a1
    have hv_6 : vp_in a1 6 := vp_in_iff.mpr ⟨by omega, by omega⟩
    refine ⟨hv_6, ?_⟩
    refine ⟨?_, ?_⟩
    · intro q_7
      replace H := f_t q_7 H
      have t_8 := MI_a171 m0 hv_6
      have b_9 : (gi σ0 171 a1.toNatClampNeg).toInt < 0 := Int32.lt_iff_toInt_lt.mp q_7
      exact h9ret (-9223372036854775808 : Int64) σ0 m0 f0 (H0.trans H.symm)
    · intro q_7
      replace H := f_f q_7 H
      have t_10 := MI_a171 m0 hv_6
      have b_11 : ¬ (gi σ0 171 a1.toNatClampNeg).toInt < 0 := fun h9 => q_7 (Int32.lt_iff_toInt_lt.mpr h9)
      refine ⟨hv_6, ?_⟩
      have t_12 := MI_a172 m0 hv_6
      have t_13 : ((gi σ0 172 a1.toNatClampNeg) - (1 : Int32)).toInt = (gi σ0 172 a1.toNatClampNeg).toInt - 1 := i_sub (x := (gi σ0 172 a1.toNatClampNeg)) (y := (1 : Int32)) (by show (_ : Int) ≤ (gi σ0 172 a1.toNatClampNeg).toInt - 1; omega) (by show (gi σ0 172 a1.toNatClampNeg).toInt - 1 ≤ (_ : Int); omega)
      refine kF_X12_in m0  (fun r8 σ7 mσ7 cσ7 plσ7 phσ7 (pσ7_0 : (r8.toInt = 1 ∧ (0 : Int) ≤ a2.toInt ∧ a2.toInt ≤ ((gi σ0 172 a1.toNatClampNeg) - (1 : Int32)).toInt) ∨ (r8.toInt = 0 ∧ (a2.toInt < (0 : Int) ∨ ((gi σ0 172 a1.toNatClampNeg) - (1 : Int32)).toInt < a2.toInt))) hσ7 => ?_)
      obtain rfl := Fr_nil cσ7
      replace H := f_b hσ7 H
      refine ⟨?_, ?_⟩
      · intro q_14
        replace H := f_f q_14 H
        have b_15 : ¬ r8.toInt = 0 := fun h9 => q_14 (Int32.toInt_inj.mp h9)
        try have t_16 : ((60 : Int32) * a1).toInt = 60 * a1.toInt := i_mull rfl (by omega) (by omega)
        have w_17 := Int32.toInt_lt a2
        have w_18 := Int32.le_toInt a2
        try have t_19 : (((60 : Int32) * a1) + a2).toInt = ((60 : Int32) * a1).toInt + a2.toInt := i_add (x := ((60 : Int32) * a1)) (y := a2) (by show (_ : Int) ≤ ((60 : Int32) * a1).toInt + a2.toInt; omega) (by show ((60 : Int32) * a1).toInt + a2.toInt ≤ (_ : Int); omega)
        have hv_20 : vp_in (((60 : Int32) * a1) + a2) 360 := vp_in_iff.mpr ⟨by omega, by omega⟩
        refine ⟨hv_20, ?_⟩
        exact h9ret (gl σ0 173 (((60 : Int32) * a1) + a2).toNatClampNeg) σ0 m0 f0 (H0.trans H.symm)
      · intro q_14
        replace H := f_t q_14 H
        have b_21 : r8.toInt = 0 := congrArg Int32.toInt q_14
        exact h9ret (-9223372036854775808 : Int64) σ0 m0 f0 (H0.trans H.symm)
noncomputable def LB_X12_shift_104 (rec : Nat → Int32 → Int32 → Int32 → Int32 → Int32 → Int32 → Sg → Int32 × Sg) (x1 : Int32) (x2 : Int32) (x3 : Int32) (x4 : Int32) (x5 : Int32) (x6 : Int32) (σ : Sg) : Int32 × Sg := (if x5 ≤ x6 then rec 1 0 0 x3 x4 x5 (0 : Int32) σ else fl (sl σ 174 x6.toNatClampNeg (gl σ 173 ((((60 : Int32) * x1) + x2) + x6).toNatClampNeg)) (fun σ4 => fl (x6 + 1) (fun v5 => rec 0 x1 x2 x3 x4 x5 v5 σ4)))
noncomputable def LB_X12_shift_141 (rec : Nat → Int32 → Int32 → Int32 → Int32 → Int32 → Int32 → Sg → Int32 × Sg) (x3 : Int32) (x4 : Int32) (x5 : Int32) (x6 : Int32) (σ : Sg) : Int32 × Sg := (if x5 ≤ x6 then (x5, σ) else fl (sl σ 173 ((((60 : Int32) * x3) + x4) + x6).toNatClampNeg (gl σ 174 x6.toNatClampNeg)) (fun σ4 => fl (x6 + 1) (fun v5 => rec 1 0 0 x3 x4 x5 v5 σ4)))
noncomputable def LF_X12_shift : Nat → Nat → Int32 → Int32 → Int32 → Int32 → Int32 → Int32 → Sg → Int32 × Sg
  | 0, _, _, _, _, _, _, _, σ => (0, σ)
  | n + 1, 0, x1, x2, x3, x4, x5, x6, σ => LB_X12_shift_104 (LF_X12_shift n) x1 x2 x3 x4 x5 x6 σ
  | n + 1, 1, _, _, x3, x4, x5, x6, σ => LB_X12_shift_141 (LF_X12_shift n) x3 x4 x5 x6 σ
  | _ + 1, _ + 2, _, _, _, _, _, _, σ => (0, σ)
noncomputable def F_X12_shift (a1 : Int32) (a2 : Int32) (a3 : Int32) (a4 : Int32) (a5 : Int32) (σ : Sg) : Int32 × Sg := fb (F_X12_isTape a1 σ) (fun r2 σ1 => (if r2 = 0 then ((-1 : Int32), σ1) else fb (F_X12_isTape a3 σ1) (fun r5 σ4 => (if r5 = 0 then ((-1 : Int32), σ4) else (if (gi σ4 171 a1.toNatClampNeg) < 0 then ((-11 : Int32), σ4) else (if 0 ≤ (gi σ4 171 a3.toNatClampNeg) then (if (gi σ4 171 a1.toNatClampNeg) = (gi σ4 171 a3.toNatClampNeg) then (if a5 < 0 then ((-13 : Int32), σ4) else (if a2 < 0 then ((-13 : Int32), σ4) else (if a4 < 0 then ((-13 : Int32), σ4) else (if ((gi σ4 172 a1.toNatClampNeg) - a5) < a2 then ((-13 : Int32), σ4) else (if a4 ≤ ((gi σ4 172 a3.toNatClampNeg) - a5) then LF_X12_shift 300 0 a1 a2 a3 a4 a5 (0 : Int32) σ4 else ((-13 : Int32), σ4)))))) else ((-12 : Int32), σ4)) else ((-11 : Int32), σ4)))))))
set_option maxRecDepth 100000 in
set_option maxHeartbeats 4000000 in
theorem kF_X12_shift {l : Launch} {V : Vx} {a1 : Int32} {a2 : Int32} {a3 : Int32} {a4 : Int32} {a5 : Int32} {σ0 : Sg} {Qk : Int32 → Sg → Prop} (m0 : MI σ0) (h9ret : ∀ (r : Int32) (σ' : Sg), MI σ' → Fr [173, 174] [] σ0 σ' → (F_X12_shift a1 a2 a3 a4 a5 σ0 = (r, σ')) → Qk r σ') : K_X12_shift l V a1 a2 a3 a4 a5 σ0 Qk := by
  refine e_X12_shift (fun M hl hV hN C => ?_)
  subst hl
  subst hV
  obtain ⟨R9, H0⟩ : ∃ R9, F_X12_shift a1 a2 a3 a4 a5 σ0 = R9 := ⟨_, rfl⟩
  have T : ∀ n : Nat, (∀ (x1 : Int32) (x2 : Int32) (x3 : Int32) (x4 : Int32) (x5 : Int32) (x6 : Int32) (σ : Sg), MI σ → Fr [173, 174] [] σ0 σ → (0 ≤ x1.toInt) → (x1.toInt ≤ 5) → (0 ≤ x2.toInt) → (x2.toInt ≤ 60) → (0 ≤ x3.toInt) → (x3.toInt ≤ 5) → (0 ≤ x4.toInt) → (x4.toInt ≤ 60) → (0 ≤ x5.toInt) → (x5.toInt ≤ 60) → (0 ≤ x6.toInt) → (x6.toInt ≤ 60) → (x2.toInt + x5.toInt ≤ 60) → (x4.toInt + x5.toInt ≤ 60) → (LF_X12_shift n 0 x1 x2 x3 x4 x5 x6 σ = R9) → (61 - x6.toInt).toNat + 100 < n → PS M 104 [(0, .ref 74), (1, .int x1), (2, .int x2), (3, .int x3), (4, .int x4), (5, .int x5), (6, .int x6)] [] σ (0, 0)) ∧ (∀ (x3 : Int32) (x4 : Int32) (x5 : Int32) (x6 : Int32) (σ : Sg), MI σ → Fr [173, 174] [] σ0 σ → (0 ≤ x3.toInt) → (x3.toInt ≤ 5) → (0 ≤ x4.toInt) → (x4.toInt ≤ 60) → (0 ≤ x5.toInt) → (x5.toInt ≤ 60) → (0 ≤ x6.toInt) → (x6.toInt ≤ 60) → (x4.toInt + x5.toInt ≤ 60) → (LF_X12_shift n 1 0 0 x3 x4 x5 x6 σ = R9) → (61 - x6.toInt).toNat < n → PS M 141 [(0, .ref 74), (3, .int x3), (4, .int x4), (5, .int x5), (6, .int x6)] [] σ (0, 0)) := by
    intro n
    induction n with
    | zero => exact ⟨fun _ _ _ _ _ _ _ _ _ _ _ _ _ _ _ _ _ _ _ _ _ _ _ _ h8 => absurd h8 (Nat.not_lt_zero _), fun _ _ _ _ _ _ _ _ _ _ _ _ _ _ _ _ _ h8 => absurd h8 (Nat.not_lt_zero _)⟩
    | succ n ih =>
      obtain ⟨ih104, ih141⟩ := ih
      refine ⟨?_, ?_⟩
      · intro x1 x2 x3 x4 x5 x6 σ mσ fσ lx1 ux1 lx2 ux2 lx3 ux3 lx4 ux4 lx5 ux5 lx6 ux6 i0 i1 H hmu
        replace H : LB_X12_shift_104 (LF_X12_shift n) x1 x2 x3 x4 x5 x6 σ = R9 := H
        unfold LB_X12_shift_104 at H
        refine s_X12_shift_104 C hN ?_
        refine ⟨?_, ?_⟩
        · intro q_1
          replace H := f_t q_1 H
          have b_2 : x5.toInt ≤ x6.toInt := Int32.le_iff_toInt_le.mp q_1
          have z_3 : (0 : Int32).toInt = 0 := rfl
          exact ih141 x3 x4 x5 (0 : Int32) σ mσ fσ (by omega) (by omega) (by omega) (by omega) (by omega) (by omega) (by omega) (by omega) (by first | with_reducible assumption | with_reducible rfl | omega | assumption | rfl) H (by omega)
        · intro q_1
          replace H := f_f q_1 H
          have b_4 : ¬ x5.toInt ≤ x6.toInt := fun h9 => q_1 (Int32.le_iff_toInt_le.mpr h9)
          have t_5 : ((60 : Int32) * x1).toInt = 60 * x1.toInt := i_mull rfl (by omega) (by omega)
          have t_6 : (((60 : Int32) * x1) + x2).toInt = ((60 : Int32) * x1).toInt + x2.toInt := i_add (x := ((60 : Int32) * x1)) (y := x2) (by show (_ : Int) ≤ ((60 : Int32) * x1).toInt + x2.toInt; omega) (by show ((60 : Int32) * x1).toInt + x2.toInt ≤ (_ : Int); omega)
          have t_7 : ((((60 : Int32) * x1) + x2) + x6).toInt = (((60 : Int32) * x1) + x2).toInt + x6.toInt := i_add (x := (((60 : Int32) * x1) + x2)) (y := x6) (by show (_ : Int) ≤ (((60 : Int32) * x1) + x2).toInt + x6.toInt; omega) (by show (((60 : Int32) * x1) + x2).toInt + x6.toInt ≤ (_ : Int); omega)
          have hv_8 : vp_in ((((60 : Int32) * x1) + x2) + x6) 360 := vp_in_iff.mpr ⟨by omega, by omega⟩
          refine ⟨hv_8, ?_⟩
          have hv_9 : vp_in x6 60 := vp_in_iff.mpr ⟨by omega, by omega⟩
          refine ⟨hv_9, ?_⟩
          intro σ4 eσ4
          replace H := f_l eσ4 H
          have mσ4 : MI σ4 := by rw [eσ4]; exact MIs_l mσ
          have fσ4 : Fr [173, 174] [] σ0 σ4 := by rw [eσ4]; exact Fr_sl fσ (by decide +kernel)
          intro v5 ev5
          replace H := f_l ev5 H
          have t_10 : (x6 + (1 : Int32)).toInt = x6.toInt + 1 := i_add (x := x6) (y := (1 : Int32)) (by show (_ : Int) ≤ x6.toInt + 1; omega) (by show x6.toInt + 1 ≤ (_ : Int); omega)
          have t_11 : v5.toInt = (x6 + (1 : Int32)).toInt := congrArg Int32.toInt ev5
          exact ih104 x1 x2 x3 x4 x5 v5 σ4 mσ4 fσ4 (by omega) (by omega) (by omega) (by omega) (by omega) (by omega) (by omega) (by omega) (by omega) (by omega) (by omega) (by omega) (by first | with_reducible assumption | with_reducible rfl | omega | assumption | rfl) (by first | with_reducible assumption | with_reducible rfl | omega | assumption | rfl) H (by omega)
      · intro x3 x4 x5 x6 σ mσ fσ lx3 ux3 lx4 ux4 lx5 ux5 lx6 ux6 i0 H hmu
        replace H : LB_X12_shift_141 (LF_X12_shift n) x3 x4 x5 x6 σ = R9 := H
        unfold LB_X12_shift_141 at H
        refine s_X12_shift_141 C hN ?_
        refine ⟨?_, ?_⟩
        · intro q_12
          replace H := f_t q_12 H
          have b_13 : x5.toInt ≤ x6.toInt := Int32.le_iff_toInt_le.mp q_12
          exact h9ret x5 σ mσ fσ (H0.trans H.symm)
        · intro q_12
          replace H := f_f q_12 H
          have b_14 : ¬ x5.toInt ≤ x6.toInt := fun h9 => q_12 (Int32.le_iff_toInt_le.mpr h9)
          have hv_15 : vp_in x6 60 := vp_in_iff.mpr ⟨by omega, by omega⟩
          refine ⟨hv_15, ?_⟩
          have t_16 : ((60 : Int32) * x3).toInt = 60 * x3.toInt := i_mull rfl (by omega) (by omega)
          have t_17 : (((60 : Int32) * x3) + x4).toInt = ((60 : Int32) * x3).toInt + x4.toInt := i_add (x := ((60 : Int32) * x3)) (y := x4) (by show (_ : Int) ≤ ((60 : Int32) * x3).toInt + x4.toInt; omega) (by show ((60 : Int32) * x3).toInt + x4.toInt ≤ (_ : Int); omega)
          have t_18 : ((((60 : Int32) * x3) + x4) + x6).toInt = (((60 : Int32) * x3) + x4).toInt + x6.toInt := i_add (x := (((60 : Int32) * x3) + x4)) (y := x6) (by show (_ : Int) ≤ (((60 : Int32) * x3) + x4).toInt + x6.toInt; omega) (by show (((60 : Int32) * x3) + x4).toInt + x6.toInt ≤ (_ : Int); omega)
          have hv_19 : vp_in ((((60 : Int32) * x3) + x4) + x6) 360 := vp_in_iff.mpr ⟨by omega, by omega⟩
          refine ⟨hv_19, ?_⟩
          intro σ4 eσ4
          replace H := f_l eσ4 H
          have mσ4 : MI σ4 := by rw [eσ4]; exact MIs_l mσ
          have fσ4 : Fr [173, 174] [] σ0 σ4 := by rw [eσ4]; exact Fr_sl fσ (by decide +kernel)
          intro v5 ev5
          replace H := f_l ev5 H
          have t_20 : (x6 + (1 : Int32)).toInt = x6.toInt + 1 := i_add (x := x6) (y := (1 : Int32)) (by show (_ : Int) ≤ x6.toInt + 1; omega) (by show x6.toInt + 1 ≤ (_ : Int); omega)
          have t_21 : v5.toInt = (x6 + (1 : Int32)).toInt := congrArg Int32.toInt ev5
          exact ih141 x3 x4 x5 v5 σ4 mσ4 fσ4 (by omega) (by omega) (by omega) (by omega) (by omega) (by omega) (by omega) (by omega) (by first | with_reducible assumption | with_reducible rfl | omega | assumption | rfl) H (by omega)
  obtain ⟨U104, U141⟩ := T 300
  have f0 : Fr [173, 174] [] σ0 σ0 := Fr_rf
  have H := H0
  unfold F_X12_shift at H
  refine s_X12_shift_0 C hN ?_
  refine kF_X12_isTape m0  (fun r2 σ1 mσ1 cσ1 plσ1 phσ1 (pσ1_0 : (r2.toInt = 1 ∧ 0 ≤ a1.toInt ∧ a1.toInt ≤ 5) ∨ (r2.toInt = 0 ∧ (a1.toInt < 0 ∨ 5 < a1.toInt))) hσ1 => ?_)
  obtain rfl := Fr_nil cσ1
  replace H := f_b hσ1 H
  refine ⟨?_, ?_⟩
  · intro q_22
    replace H := f_t q_22 H
    have b_23 : r2.toInt = 0 := congrArg Int32.toInt q_22
    have z_24 : (-1 : Int32).toInt = -1 := rfl
    exact h9ret (-1 : Int32) σ0 m0 f0 (H0.trans H.symm)
  · intro q_22
    replace H := f_f q_22 H
    have b_25 : ¬ r2.toInt = 0 := fun h9 => q_22 (Int32.toInt_inj.mp h9)
    refine kF_X12_isTape m0  (fun r5 σ4 mσ4 cσ4 plσ4 phσ4 (pσ4_0 : (r5.toInt = 1 ∧ 0 ≤ a3.toInt ∧ a3.toInt ≤ 5) ∨ (r5.toInt = 0 ∧ (a3.toInt < 0 ∨ 5 < a3.toInt))) hσ4 => ?_)
    obtain rfl := Fr_nil cσ4
    replace H := f_b hσ4 H
    refine ⟨?_, ?_⟩
    · intro q_26
      replace H := f_f q_26 H
      have b_27 : ¬ r5.toInt = 0 := fun h9 => q_26 (Int32.toInt_inj.mp h9)
      have w_28 := Int32.toInt_lt a1
      have w_29 := Int32.le_toInt a1
      have hv_30 : vp_in a1 6 := vp_in_iff.mpr ⟨by omega, by omega⟩
      refine ⟨hv_30, ?_⟩
      refine ⟨?_, ?_⟩
      · intro q_31
        replace H := f_t q_31 H
        have t_32 := MI_a171 m0 hv_30
        have b_33 : (gi σ0 171 a1.toNatClampNeg).toInt < 0 := Int32.lt_iff_toInt_lt.mp q_31
        have z_34 : (-11 : Int32).toInt = -11 := rfl
        exact h9ret (-11 : Int32) σ0 m0 f0 (H0.trans H.symm)
      · intro q_31
        replace H := f_f q_31 H
        have t_35 := MI_a171 m0 hv_30
        have b_36 : ¬ (gi σ0 171 a1.toNatClampNeg).toInt < 0 := fun h9 => q_31 (Int32.lt_iff_toInt_lt.mpr h9)
        have w_37 := Int32.toInt_lt a3
        have w_38 := Int32.le_toInt a3
        have hv_39 : vp_in a3 6 := vp_in_iff.mpr ⟨by omega, by omega⟩
        refine ⟨hv_39, ?_⟩
        refine ⟨?_, ?_⟩
        · intro q_40
          replace H := f_t q_40 H
          have t_41 := MI_a171 m0 hv_39
          have b_42 : (0 : Int) ≤ (gi σ0 171 a3.toNatClampNeg).toInt := Int32.le_iff_toInt_le.mp q_40
          refine ⟨hv_30, ?_⟩
          refine ⟨hv_39, ?_⟩
          refine ⟨?_, ?_⟩
          · intro q_43
            replace H := f_t q_43 H
            have b_44 : (gi σ0 171 a1.toNatClampNeg).toInt = (gi σ0 171 a3.toNatClampNeg).toInt := congrArg Int32.toInt q_43
            refine ⟨?_, ?_⟩
            · intro q_45
              replace H := f_t q_45 H
              have w_46 := Int32.toInt_lt a5
              have w_47 := Int32.le_toInt a5
              have b_48 : a5.toInt < 0 := Int32.lt_iff_toInt_lt.mp q_45
              have z_49 : (-13 : Int32).toInt = -13 := rfl
              exact h9ret (-13 : Int32) σ0 m0 f0 (H0.trans H.symm)
            · intro q_45
              replace H := f_f q_45 H
              have w_50 := Int32.toInt_lt a5
              have w_51 := Int32.le_toInt a5
              have b_52 : ¬ a5.toInt < 0 := fun h9 => q_45 (Int32.lt_iff_toInt_lt.mpr h9)
              refine ⟨?_, ?_⟩
              · intro q_53
                replace H := f_t q_53 H
                have w_54 := Int32.toInt_lt a2
                have w_55 := Int32.le_toInt a2
                have b_56 : a2.toInt < 0 := Int32.lt_iff_toInt_lt.mp q_53
                have z_57 : (-13 : Int32).toInt = -13 := rfl
                exact h9ret (-13 : Int32) σ0 m0 f0 (H0.trans H.symm)
              · intro q_53
                replace H := f_f q_53 H
                have w_58 := Int32.toInt_lt a2
                have w_59 := Int32.le_toInt a2
                have b_60 : ¬ a2.toInt < 0 := fun h9 => q_53 (Int32.lt_iff_toInt_lt.mpr h9)
                refine ⟨?_, ?_⟩
                · intro q_61
                  replace H := f_t q_61 H
                  have w_62 := Int32.toInt_lt a4
                  have w_63 := Int32.le_toInt a4
                  have b_64 : a4.toInt < 0 := Int32.lt_iff_toInt_lt.mp q_61
                  have z_65 : (-13 : Int32).toInt = -13 := rfl
                  exact h9ret (-13 : Int32) σ0 m0 f0 (H0.trans H.symm)
                · intro q_61
                  replace H := f_f q_61 H
                  have w_66 := Int32.toInt_lt a4
                  have w_67 := Int32.le_toInt a4
                  have b_68 : ¬ a4.toInt < 0 := fun h9 => q_61 (Int32.lt_iff_toInt_lt.mpr h9)
                  refine ⟨hv_30, ?_⟩
                  refine ⟨?_, ?_⟩
                  · intro q_69
                    replace H := f_t q_69 H
                    have t_70 := MI_a172 m0 hv_30
                    try have t_71 : ((gi σ0 172 a1.toNatClampNeg) - a5).toInt = (gi σ0 172 a1.toNatClampNeg).toInt - a5.toInt := i_sub (x := (gi σ0 172 a1.toNatClampNeg)) (y := a5) (by show (_ : Int) ≤ (gi σ0 172 a1.toNatClampNeg).toInt - a5.toInt; omega) (by show (gi σ0 172 a1.toNatClampNeg).toInt - a5.toInt ≤ (_ : Int); omega)
                    have b_72 : ((gi σ0 172 a1.toNatClampNeg) - a5).toInt < a2.toInt := Int32.lt_iff_toInt_lt.mp q_69
                    have z_73 : (-13 : Int32).toInt = -13 := rfl
                    exact h9ret (-13 : Int32) σ0 m0 f0 (H0.trans H.symm)
                  · intro q_69
                    replace H := f_f q_69 H
                    have t_74 := MI_a172 m0 hv_30
                    try have t_75 : ((gi σ0 172 a1.toNatClampNeg) - a5).toInt = (gi σ0 172 a1.toNatClampNeg).toInt - a5.toInt := i_sub (x := (gi σ0 172 a1.toNatClampNeg)) (y := a5) (by show (_ : Int) ≤ (gi σ0 172 a1.toNatClampNeg).toInt - a5.toInt; omega) (by show (gi σ0 172 a1.toNatClampNeg).toInt - a5.toInt ≤ (_ : Int); omega)
                    have b_76 : ¬ ((gi σ0 172 a1.toNatClampNeg) - a5).toInt < a2.toInt := fun h9 => q_69 (Int32.lt_iff_toInt_lt.mpr h9)
                    refine ⟨hv_39, ?_⟩
                    refine ⟨?_, ?_⟩
                    · intro q_77
                      replace H := f_t q_77 H
                      have t_78 := MI_a172 m0 hv_39
                      try have t_79 : ((gi σ0 172 a3.toNatClampNeg) - a5).toInt = (gi σ0 172 a3.toNatClampNeg).toInt - a5.toInt := i_sub (x := (gi σ0 172 a3.toNatClampNeg)) (y := a5) (by show (_ : Int) ≤ (gi σ0 172 a3.toNatClampNeg).toInt - a5.toInt; omega) (by show (gi σ0 172 a3.toNatClampNeg).toInt - a5.toInt ≤ (_ : Int); omega)
                      have b_80 : a4.toInt ≤ ((gi σ0 172 a3.toNatClampNeg) - a5).toInt := Int32.le_iff_toInt_le.mp q_77
                      have z_81 : (0 : Int32).toInt = 0 := rfl
                      exact U104 a1 a2 a3 a4 a5 (0 : Int32) σ0 m0 f0 (by omega) (by omega) (by omega) (by omega) (by omega) (by omega) (by omega) (by omega) (by omega) (by omega) (by omega) (by omega) (by first | with_reducible assumption | with_reducible rfl | omega | assumption | rfl) (by first | with_reducible assumption | with_reducible rfl | omega | assumption | rfl) H (by omega)
                    · intro q_77
                      replace H := f_f q_77 H
                      have t_82 := MI_a172 m0 hv_39
                      try have t_83 : ((gi σ0 172 a3.toNatClampNeg) - a5).toInt = (gi σ0 172 a3.toNatClampNeg).toInt - a5.toInt := i_sub (x := (gi σ0 172 a3.toNatClampNeg)) (y := a5) (by show (_ : Int) ≤ (gi σ0 172 a3.toNatClampNeg).toInt - a5.toInt; omega) (by show (gi σ0 172 a3.toNatClampNeg).toInt - a5.toInt ≤ (_ : Int); omega)
                      have b_84 : ¬ a4.toInt ≤ ((gi σ0 172 a3.toNatClampNeg) - a5).toInt := fun h9 => q_77 (Int32.le_iff_toInt_le.mpr h9)
                      have z_85 : (-13 : Int32).toInt = -13 := rfl
                      exact h9ret (-13 : Int32) σ0 m0 f0 (H0.trans H.symm)
          · intro q_43
            replace H := f_f q_43 H
            have b_86 : ¬ (gi σ0 171 a1.toNatClampNeg).toInt = (gi σ0 171 a3.toNatClampNeg).toInt := fun h9 => q_43 (Int32.toInt_inj.mp h9)
            have z_87 : (-12 : Int32).toInt = -12 := rfl
            exact h9ret (-12 : Int32) σ0 m0 f0 (H0.trans H.symm)
        · intro q_40
          replace H := f_f q_40 H
          have t_88 := MI_a171 m0 hv_39
          have b_89 : ¬ (0 : Int) ≤ (gi σ0 171 a3.toNatClampNeg).toInt := fun h9 => q_40 (Int32.le_iff_toInt_le.mpr h9)
          have z_90 : (-11 : Int32).toInt = -11 := rfl
          exact h9ret (-11 : Int32) σ0 m0 f0 (H0.trans H.symm)
    · intro q_26
      replace H := f_t q_26 H
      have b_91 : r5.toInt = 0 := congrArg Int32.toInt q_26
      have z_92 : (-1 : Int32).toInt = -1 := rfl
      exact h9ret (-1 : Int32) σ0 m0 f0 (H0.trans H.symm)
/-! the tapes, as functions -/
theorem fb_mk {α β : Type} {x : α} {s : Sg} {f : α → Sg → β} : fb (x, s) f = f x s := rfl
theorem fl_mk {α β : Type} {a : α} {f : α → β} : fl a f = f a := rfl
noncomputable def cutv (s : Int32) (z : Int64) : Int64 := if s.toInt = 0 then z.toInt32.toInt8.toInt32.toInt64 else if s.toInt = 1 then z.toInt32.toInt16.toInt32.toInt64 else if s.toInt = 2 then z.toInt32.toInt64 else if s.toInt = 4 then (if lg_cmp z (0 : Int64) = 0 then (0 : Int64) else (1 : Int64)) else z
theorem F_cut {c0 : Nat} {a1 : Int64} {σ : Sg} : F_X9_cut c0 a1 σ = (cutv (gi σ c0 1) a1, σ) := by
  unfold F_X9_cut cutv
  by_cases h0 : (gi σ c0 1).toInt = 0
  · rw [if_pos h0, if_pos h0]
  rw [if_neg h0, if_neg h0]
  by_cases h1 : (gi σ c0 1).toInt = 1
  · rw [if_pos h1, if_pos h1]
  rw [if_neg h1, if_neg h1]
  by_cases h2 : (gi σ c0 1).toInt = 2
  · rw [if_pos h2, if_pos h2]
  rw [if_neg h2, if_neg h2]
  by_cases h3 : (gi σ c0 1).toInt = 3
  · rw [if_pos h3, if_neg (by omega)]
  rw [if_neg h3]
  by_cases h4 : (gi σ c0 1).toInt = 4
  · rw [if_pos h4, if_pos h4]
    by_cases hz : lg_cmp a1 (0 : Int64) = 0
    · rw [if_pos hz, if_pos hz]
    · rw [if_neg hz, if_neg hz]
  rw [if_neg h4, if_neg h4]
theorem F_narrow {a1 : Int32} {z : Int64} {σ : Sg} : F_X12_narrow a1 z σ = (cutv a1 z, σ) := by
  unfold F_X12_narrow cutv
  have e : ∀ n : Int32, a1 = n ↔ a1.toInt = n.toInt := fun n => Int32.toInt_inj.symm
  by_cases h0 : a1.toInt = 0
  · rw [if_pos ((e 0).mpr h0), if_pos h0]
  rw [if_neg (fun h => h0 ((e 0).mp h)), if_neg h0]
  by_cases h1 : a1.toInt = 1
  · rw [if_pos ((e 1).mpr h1), if_pos h1]
  rw [if_neg (fun h => h1 ((e 1).mp h)), if_neg h1]
  by_cases h2 : a1.toInt = 2
  · rw [if_pos ((e 2).mpr h2), if_pos h2]
  rw [if_neg (fun h => h2 ((e 2).mp h)), if_neg h2]
  by_cases h4 : a1.toInt = 4
  · rw [if_pos ((e 4).mpr h4), if_pos h4]
    by_cases hz : lg_cmp z (0 : Int64) = 0
    · rw [if_pos hz, if_pos hz]
    · rw [if_neg hz, if_neg hz]
  rw [if_neg (fun h => h4 ((e 4).mp h)), if_neg h4]
theorem i_lt0 {a : Int32} (h : a.toInt < 0) : a < 0 := Int32.lt_iff_toInt_lt.mpr h
theorem i_nlt0 {a : Int32} (h : 0 ≤ a.toInt) : ¬ a < 0 := fun q => by
  have q2 : a.toInt < 0 := Int32.lt_iff_toInt_lt.mp q
  omega
theorem i_lt {a b : Int32} (h : a.toInt < b.toInt) : a < b := Int32.lt_iff_toInt_lt.mpr h
theorem i_nlt {a b : Int32} (h : b.toInt ≤ a.toInt) : ¬ a < b := fun q => by
  have q2 := Int32.lt_iff_toInt_lt.mp q
  omega
theorem i_le {a b : Int32} (h : a.toInt ≤ b.toInt) : a ≤ b := Int32.le_iff_toInt_le.mpr h
theorem i_nle {a b : Int32} (h : b.toInt < a.toInt) : ¬ a ≤ b := fun q => by
  have q2 := Int32.le_iff_toInt_le.mp q
  omega
theorem i_ne {a b : Int32} (h : a.toInt ≠ b.toInt) : ¬ a = b := fun q => h (congrArg Int32.toInt q)
theorem i_eq {a b : Int32} (h : a.toInt = b.toInt) : a = b := Int32.toInt_inj.mp h
theorem F_isTape {a1 : Int32} {σ : Sg} : F_X11_isTape a1 σ = (if 0 ≤ a1.toInt ∧ a1.toInt ≤ 5 then (1 : Int32) else 0, σ) := by
  unfold F_X11_isTape
  by_cases c1 : a1.toInt < 0
  · rw [if_pos (i_lt0 c1), if_neg (by omega)]
  rw [if_neg (i_nlt0 (by omega))]
  by_cases c2 : (6 : Int) ≤ a1.toInt
  · rw [if_pos (i_le (a := (6 : Int32)) c2), if_neg (by omega)]
  · rw [if_neg (i_nle (a := (6 : Int32)) (by show a1.toInt < 6; omega)), if_pos (by omega)]
theorem F_in {a b c : Int32} {σ : Sg} : F_X12_in a b c σ = (if b.toInt ≤ a.toInt ∧ a.toInt ≤ c.toInt then (1 : Int32) else 0, σ) := by
  unfold F_X12_in
  by_cases c1 : a.toInt < b.toInt
  · rw [if_pos (i_lt c1), if_neg (by omega)]
  rw [if_neg (i_nlt (by omega))]
  by_cases c2 : c.toInt < a.toInt
  · rw [if_pos (i_lt c2), if_neg (by omega)]
  · rw [if_neg (i_nlt (by omega)), if_pos (by omega)]
theorem F_misTape {a1 : Int32} {σ : Sg} : F_X12_isTape a1 σ = (if 0 ≤ a1.toInt ∧ a1.toInt ≤ 5 then (1 : Int32) else 0, σ) := by
  unfold F_X12_isTape
  rw [F_in]
  rfl
theorem F_isEmpty {c0 : Nat} {σ : Sg} : F_X9_isEmpty c0 σ = (if (gi σ c0 1).toInt < 0 then (1 : Int32) else 0, σ) := by
  unfold F_X9_isEmpty
  by_cases c1 : (gi σ c0 1).toInt < 0
  · rw [if_neg (i_nle c1), if_pos c1]
  · rw [if_pos (i_le (by show (0 : Int) ≤ _; omega)), if_neg c1]
theorem F_has {c0 : Nat} {a1 : Int32} {σ : Sg} : F_X9_has c0 a1 σ = (if 0 ≤ a1.toInt ∧ a1.toInt < (gi σ c0 2).toInt then (1 : Int32) else 0, σ) := by
  unfold F_X9_has
  by_cases c1 : a1.toInt < 0
  · rw [if_pos (i_lt0 c1), if_neg (by omega)]
  rw [if_neg (i_nlt0 (by omega))]
  by_cases c2 : (gi σ c0 2).toInt ≤ a1.toInt
  · rw [if_pos (i_le c2), if_neg (by omega)]
  · rw [if_neg (i_nle (by omega)), if_pos (by omega)]
theorem F_hasPart {c0 : Nat} {a1 a2 : Int32} {σ : Sg} (h0 : 0 ≤ (gi σ c0 2).toInt) (h1 : (gi σ c0 2).toInt ≤ 60) : F_X9_hasPart c0 a1 a2 σ = (if 0 ≤ a2.toInt ∧ 0 ≤ a1.toInt ∧ a1.toInt ≤ (gi σ c0 2).toInt - a2.toInt then (1 : Int32) else 0, σ) := by
  unfold F_X9_hasPart
  by_cases c1 : a2.toInt < 0
  · rw [if_pos (i_lt0 c1), if_neg (by omega)]
  rw [if_neg (i_nlt0 (by omega))]
  by_cases c2 : a1.toInt < 0
  · rw [if_pos (i_lt0 c2), if_neg (by omega)]
  rw [if_neg (i_nlt0 (by omega))]
  by_cases c3 : (gi σ c0 2).toInt < a2.toInt
  · rw [if_pos (i_lt c3), if_neg (by omega)]
  rw [if_neg (i_nlt (by omega))]
  have e : ((gi σ c0 2) - a2).toInt = (gi σ c0 2).toInt - a2.toInt := i_sub (by show (_ : Int) ≤ (gi σ c0 2).toInt - a2.toInt; omega) (by show (gi σ c0 2).toInt - a2.toInt ≤ (_ : Int); omega)
  by_cases c4 : (gi σ c0 2).toInt - a2.toInt < a1.toInt
  · rw [if_pos (i_lt (by rw [e]; exact c4)), if_neg (by omega)]
  · rw [if_neg (i_nlt (by rw [e]; omega)), if_pos (by omega)]
/-- what both tapes hold alike -/
noncomputable def TAP (σ : Sg) : Prop := ∀ t : Nat, t < 6 → gi σ (52 + 2 * t) 1 = gi σ 171 t ∧ gi σ (52 + 2 * t) 2 = gi σ 172 t ∧ ((gi σ 171 t).toInt < 0 → (gi σ 172 t).toInt = 0) ∧ ∀ i : Nat, i < 60 → gl σ (52 + 2 * t + 1) i = gl σ 173 (60 * t + i)
theorem gl_sl {σ : Sg} {a k b j : Nat} {v : Int64} : gl (sl σ a k v) b j = if b = a ∧ j = k then v else gl σ b j := by
  unfold gl sl sla va_up vp_updL
  by_cases h : b = a
  · subst h
    by_cases h2 : j = k
    · subst h2; simp
    · simp [h2]
  · simp [h]
theorem gl_sla {σ : Sg} {a b j : Nat} {g : Nat → Int64} : gl (sla σ a g) b j = if b = a then g j else gl σ b j := by
  unfold gl sla va_up
  by_cases h : b = a
  · subst h; simp
  · simp [h]
theorem gl_si {σ : Sg} {a k b j : Nat} {v : Int32} : gl (si σ a k v) b j = gl σ b j := rfl
theorem gi_sla {σ : Sg} {a b j : Nat} {g : Nat → Int64} : gi (sla σ a g) b j = gi σ b j := rfl
theorem ite_10 {α : Type} {c : Prop} {d : Decidable c} {A B : α} : (if (@ite Int32 c d 1 0) = 0 then A else B) = @ite α c d B A := by
  by_cases h : c
  · rw [if_pos h, if_pos h, if_neg (by decide +kernel)]
  · rw [if_neg h, if_neg h, if_pos rfl]
/-- one item -/
theorem N_xitem {a1 a2 : Int32} {a3 : Int64} {σ : Sg} : F_X11_item a1 a2 a3 σ = if 0 ≤ a1.toInt ∧ a1.toInt ≤ 5 then (if (gi σ (52 + 2 * a1.toNatClampNeg) 1).toInt < 0 then ((-11 : Int32), σ) else if 0 ≤ a2.toInt ∧ a2.toInt < (gi σ (52 + 2 * a1.toNatClampNeg) 2).toInt then ((1 : Int32), sl σ (52 + 2 * a1.toNatClampNeg + 1) a2.toNatClampNeg (cutv (gi σ (52 + 2 * a1.toNatClampNeg) 1) a3)) else ((-13 : Int32), σ)) else ((-1 : Int32), σ) := by
  unfold F_X11_item
  rw [F_isTape, fb_mk, ite_10]
  by_cases c : 0 ≤ a1.toInt ∧ a1.toInt ≤ 5
  · rw [if_pos c, if_pos c, F_isEmpty, fb_mk, ite_10]
    by_cases c2 : (gi σ (52 + 2 * a1.toNatClampNeg) 1).toInt < 0
    · rw [if_pos c2, if_pos c2]
    · rw [if_neg c2, if_neg c2, F_has, fb_mk, ite_10, F_cut, fb_mk]
      rfl
  · rw [if_neg c, if_neg c]
theorem N_mitem {a1 a2 : Int32} {a3 : Int64} {σ : Sg} (h0 : 0 ≤ (gi σ 172 a1.toNatClampNeg).toInt) (h1 : (gi σ 172 a1.toNatClampNeg).toInt ≤ 60) : F_X12_item a1 a2 a3 σ = if 0 ≤ a1.toInt ∧ a1.toInt ≤ 5 then (if (gi σ 171 a1.toNatClampNeg).toInt < 0 then ((-11 : Int32), σ) else if 0 ≤ a2.toInt ∧ a2.toInt < (gi σ 172 a1.toNatClampNeg).toInt then ((1 : Int32), sl σ 173 (60 * a1.toNatClampNeg + a2.toNatClampNeg) (cutv (gi σ 171 a1.toNatClampNeg) a3)) else ((-13 : Int32), σ)) else ((-1 : Int32), σ) := by
  unfold F_X12_item
  rw [F_misTape, fb_mk, ite_10]
  by_cases c : 0 ≤ a1.toInt ∧ a1.toInt ≤ 5
  · rw [if_pos c, if_pos c]
    by_cases c2 : (gi σ 171 a1.toNatClampNeg).toInt < 0
    · rw [if_neg (i_nle c2), if_pos c2]
    · rw [if_pos (i_le (by show (0 : Int) ≤ _; omega)), if_neg c2, F_in, fb_mk, ite_10]
      have e : ((gi σ 172 a1.toNatClampNeg) - (1 : Int32)).toInt = (gi σ 172 a1.toNatClampNeg).toInt - 1 := i_sub (y := (1 : Int32)) (by show (_ : Int) ≤ (gi σ 172 a1.toNatClampNeg).toInt - 1; omega) (by show (gi σ 172 a1.toNatClampNeg).toInt - 1 ≤ (_ : Int); omega)
      have z : (0 : Int32).toInt = 0 := rfl
      by_cases c3 : 0 ≤ a2.toInt ∧ a2.toInt < (gi σ 172 a1.toNatClampNeg).toInt
      · rw [if_pos (by rw [e]; omega), if_pos c3, F_narrow, fb_mk]
        have k1 : ((60 : Int32) * a1).toInt = 60 * a1.toInt := i_mull rfl (by omega) (by omega)
        have k2 : (((60 : Int32) * a1) + a2).toInt = ((60 : Int32) * a1).toInt + a2.toInt := i_add (by show (_ : Int) ≤ ((60 : Int32) * a1).toInt + a2.toInt; omega) (by show ((60 : Int32) * a1).toInt + a2.toInt ≤ (_ : Int); omega)
        have k3 : (((60 : Int32) * a1) + a2).toNatClampNeg = 60 * a1.toNatClampNeg + a2.toNatClampNeg := by
          have q1 := cl_eq (x := ((60 : Int32) * a1) + a2) (by omega)
          have q2 := cl_eq (x := a1) (by omega)
          have q3 := cl_eq (x := a2) (by omega)
          omega
        show ((1 : Int32), sl σ 173 (((60 : Int32) * a1) + a2).toNatClampNeg (cutv (gi σ 171 a1.toNatClampNeg) a3)) = _
        rw [k3]
      · rw [if_neg (by rw [e]; omega), if_neg c3]
  · rw [if_neg c, if_neg c]
theorem N_xread {a1 a2 : Int32} {σ : Sg} : F_X11_read a1 a2 σ = if 0 ≤ a1.toInt ∧ a1.toInt ≤ 5 then (if 0 ≤ a2.toInt ∧ a2.toInt < (gi σ (52 + 2 * a1.toNatClampNeg) 2).toInt then (gl σ (52 + 2 * a1.toNatClampNeg + 1) a2.toNatClampNeg, σ) else ((-9223372036854775808 : Int64), σ)) else ((-9223372036854775808 : Int64), σ) := by
  unfold F_X11_read
  rw [F_isTape, fb_mk, ite_10]
  by_cases c : 0 ≤ a1.toInt ∧ a1.toInt ≤ 5
  · rw [if_pos c, if_pos c, F_has, fb_mk, ite_10]
  · rw [if_neg c, if_neg c]
theorem N_mread {a1 a2 : Int32} {σ : Sg} (h0 : 0 ≤ (gi σ 172 a1.toNatClampNeg).toInt) (h1 : (gi σ 172 a1.toNatClampNeg).toInt ≤ 60) : F_X12_read a1 a2 σ = if 0 ≤ a1.toInt ∧ a1.toInt ≤ 5 then (if (gi σ 171 a1.toNatClampNeg).toInt < 0 then ((-9223372036854775808 : Int64), σ) else if 0 ≤ a2.toInt ∧ a2.toInt < (gi σ 172 a1.toNatClampNeg).toInt then (gl σ 173 (60 * a1.toNatClampNeg + a2.toNatClampNeg), σ) else ((-9223372036854775808 : Int64), σ)) else ((-9223372036854775808 : Int64), σ) := by
  unfold F_X12_read
  rw [F_misTape, fb_mk, ite_10]
  by_cases c : 0 ≤ a1.toInt ∧ a1.toInt ≤ 5
  · rw [if_pos c, if_pos c]
    by_cases c2 : (gi σ 171 a1.toNatClampNeg).toInt < 0
    · rw [if_pos (i_lt0 c2), if_pos c2]
    · rw [if_neg (i_nlt0 (by omega)), if_neg c2, F_in, fb_mk, ite_10]
      have e : ((gi σ 172 a1.toNatClampNeg) - (1 : Int32)).toInt = (gi σ 172 a1.toNatClampNeg).toInt - 1 := i_sub (y := (1 : Int32)) (by show (_ : Int) ≤ (gi σ 172 a1.toNatClampNeg).toInt - 1; omega) (by show (gi σ 172 a1.toNatClampNeg).toInt - 1 ≤ (_ : Int); omega)
      have z : (0 : Int32).toInt = 0 := rfl
      by_cases c3 : 0 ≤ a2.toInt ∧ a2.toInt < (gi σ 172 a1.toNatClampNeg).toInt
      · rw [if_pos (by rw [e]; omega), if_pos c3]
        have k1 : ((60 : Int32) * a1).toInt = 60 * a1.toInt := i_mull rfl (by omega) (by omega)
        have k2 : (((60 : Int32) * a1) + a2).toInt = ((60 : Int32) * a1).toInt + a2.toInt := i_add (by show (_ : Int) ≤ ((60 : Int32) * a1).toInt + a2.toInt; omega) (by show ((60 : Int32) * a1).toInt + a2.toInt ≤ (_ : Int); omega)
        have k3 : (((60 : Int32) * a1) + a2).toNatClampNeg = 60 * a1.toNatClampNeg + a2.toNatClampNeg := by
          have q1 := cl_eq (x := ((60 : Int32) * a1) + a2) (by omega)
          have q2 := cl_eq (x := a1) (by omega)
          have q3 := cl_eq (x := a2) (by omega)
          omega
        rw [k3]
      · rw [if_neg (by rw [e]; omega), if_neg c3]
  · rw [if_neg c, if_neg c]
theorem sla_self {σ : Sg} {a : Nat} {g : Nat → Int64} (h : ∀ j, g j = gl σ a j) : sla σ a g = σ := by
  have e : va_up σ.2.1 a g = σ.2.1 := by
    funext b
    unfold va_up
    by_cases q : b = a
    · rw [if_pos q, q]; funext j; exact h j
    · rw [if_neg q]
  show (σ.1, va_up σ.2.1 a g, σ.2.2) = σ
  rw [e]
theorem sla_sla {σ : Sg} {a : Nat} {g h : Nat → Int64} : sla (sla σ a g) a h = sla σ a h := by
  have e : va_up (va_up σ.2.1 a g) a h = va_up σ.2.1 a h := by
    funext b
    unfold va_up
    by_cases q : b = a
    · rw [if_pos q, if_pos q]
    · rw [if_neg q, if_neg q, if_neg q]
  show (σ.1, va_up (va_up σ.2.1 a g) a h, σ.2.2) = _
  rw [e]
  rfl
theorem sla_ext {σ : Sg} {a : Nat} {g h : Nat → Int64} (e : ∀ j, g j = h j) : sla σ a g = sla σ a h := by rw [funext e]
theorem sl_sla {σ : Sg} {a k : Nat} {v : Int64} : sl σ a k v = sla σ a (fun j => if j = k then v else gl σ a j) := rfl
theorem LF_fill {a : Nat} {v : Int64} : ∀ (n : Nat) (x3 : Int32) (σ : Sg), 0 ≤ x3.toInt → x3.toInt ≤ 60 → (60 - x3.toInt).toNat < n → LF_J7_fill_d0a16 a n v x3 60 σ = sla σ a (fun j => if x3.toNatClampNeg ≤ j ∧ j < 60 then v else gl σ a j) := by
  intro n
  induction n with
  | zero => intro x3 σ _ _ h; exact absurd h (Nat.not_lt_zero _)
  | succ n ih =>
    intro x3 σ h0 h6 hn
    show LB_J7_fill_d0a16_6 a (LF_J7_fill_d0a16 a n) v x3 60 σ = _
    have ec := cl_eq h0
    unfold LB_J7_fill_d0a16_6
    by_cases c : (60 : Int) ≤ x3.toInt
    · rw [if_pos (i_le (a := (60 : Int32)) c)]
      exact (sla_self (fun j => by rw [if_neg (by omega)])).symm
    · rw [if_neg (i_nle (by show x3.toInt < 60; omega))]
      have e1 : (x3 + 1).toInt = x3.toInt + 1 := i_add (y := (1 : Int32)) (by show (_ : Int) ≤ x3.toInt + 1; omega) (by show x3.toInt + 1 ≤ (_ : Int); omega)
      have ec1 := cl_eq (x := x3 + 1) (by omega)
      show LF_J7_fill_d0a16 a n v (x3 + 1) 60 (sl σ a x3.toNatClampNeg v) = _
      rw [ih (x3 + 1) _ (by omega) (by omega) (by omega), sl_sla, sla_sla]
      refine sla_ext (fun j => ?_)
      rw [gl_sla, if_pos rfl]
      by_cases q : j = x3.toNatClampNeg
      · rw [if_neg (by omega), if_pos q, if_pos (by omega)]
      · rw [if_neg q]
        by_cases q2 : x3.toNatClampNeg ≤ j ∧ j < 60
        · rw [if_pos (by omega), if_pos q2]
        · rw [if_neg (by omega), if_neg q2]
theorem F_fill {a : Nat} {v : Int64} {σ : Sg} : F_J7_fill_d0a16 a v σ = sla σ a (fun j => if j < 60 then v else gl σ a j) := by
  unfold F_J7_fill_d0a16
  rw [fl_mk, show Int32.ofNat 60 = (60 : Int32) from rfl, LF_fill 90 0 σ (by decide +kernel) (by decide +kernel) (by decide +kernel)]
  refine sla_ext (fun j => ?_)
  have z : (0 : Int32).toNatClampNeg = 0 := by decide +kernel
  rw [z]
  by_cases q : j < 60
  · rw [if_pos ⟨Nat.zero_le _, q⟩, if_pos q]
  · rw [if_neg (fun h => q h.2), if_neg q]
/-- a tape laid anew: the class's, the model's -/
noncomputable def TX (σ : Sg) (c : Nat) (s n : Int32) : Sg := sla (si (si σ c 1 s) c 2 n) (c + 1) (fun j => if j < 60 then 0 else gl σ (c + 1) j)
noncomputable def TM (σ : Sg) (t : Nat) (s n : Int32) : Sg := sla (si (si σ 171 t s) 172 t n) 173 (fun j => if 60 * t ≤ j ∧ j < 60 * t + 60 then 0 else gl σ 173 j)
theorem F_becomes {c : Nat} {s n : Int32} {σ : Sg} : F_X9_becomes c s n σ = TX σ c s n := by
  unfold F_X9_becomes TX
  rw [fl_mk, fl_mk, fl_mk, F_fill]
  rfl
theorem LF_mtape {a b x1 : Int32} (h0 : 0 ≤ x1.toInt) (h5 : x1.toInt ≤ 5) : ∀ (n : Nat) (x4 : Int32) (σ : Sg), 0 ≤ x4.toInt → x4.toInt ≤ 60 → (60 - x4.toInt).toNat < n → LF_X12_tape n 1 x1 a b x4 σ = ((1 : Int32), sla σ 173 (fun j => if 60 * x1.toNatClampNeg + x4.toNatClampNeg ≤ j ∧ j < 60 * x1.toNatClampNeg + 60 then 0 else gl σ 173 j)) := by
  intro n
  induction n generalizing a b with
  | zero => intro x4 σ _ _ h; exact absurd h (Nat.not_lt_zero _)
  | succ n ih =>
    intro x4 σ g0 g6 hn
    show LB_X12_tape_69 (LF_X12_tape n) x1 x4 σ = _
    have ec := cl_eq g0
    have ed := cl_eq h0
    unfold LB_X12_tape_69
    by_cases c : (60 : Int) ≤ x4.toInt
    · rw [if_pos (i_le (a := (60 : Int32)) c), sla_self (fun j => by rw [if_neg (by omega)])]
    · rw [if_neg (i_nle (by show x4.toInt < 60; omega))]
      have e1 : (x4 + 1).toInt = x4.toInt + 1 := i_add (y := (1 : Int32)) (by show (_ : Int) ≤ x4.toInt + 1; omega) (by show x4.toInt + 1 ≤ (_ : Int); omega)
      have ec1 := cl_eq (x := x4 + 1) (by omega)
      have k1 : ((60 : Int32) * x1).toInt = 60 * x1.toInt := i_mull rfl (by omega) (by omega)
      have k2 : (((60 : Int32) * x1) + x4).toInt = ((60 : Int32) * x1).toInt + x4.toInt := i_add (by show (_ : Int) ≤ ((60 : Int32) * x1).toInt + x4.toInt; omega) (by show ((60 : Int32) * x1).toInt + x4.toInt ≤ (_ : Int); omega)
      have k3 := cl_eq (x := ((60 : Int32) * x1) + x4) (by omega)
      show LF_X12_tape n 1 x1 0 0 (x4 + 1) (sl σ 173 (((60 : Int32) * x1) + x4).toNatClampNeg 0) = _
      rw [ih (x4 + 1) _ (by omega) (by omega) (by omega), sl_sla, sla_sla]
      congr 1
      refine sla_ext (fun j => ?_)
      rw [gl_sla, if_pos rfl]
      by_cases q : j = (((60 : Int32) * x1) + x4).toNatClampNeg
      · rw [if_neg (by omega), if_pos q, if_pos (by omega)]
      · rw [if_neg q]
        by_cases q2 : 60 * x1.toNatClampNeg + x4.toNatClampNeg ≤ j ∧ j < 60 * x1.toNatClampNeg + 60
        · rw [if_pos (by omega), if_pos q2]
        · rw [if_neg (by omega), if_neg q2]
theorem LF_mtape0 {x1 x2 x3 x4 : Int32} {σ : Sg} (h0 : 0 ≤ x1.toInt) (h5 : x1.toInt ≤ 5) : ∀ n : Nat, 100 < n → LF_X12_tape n 0 x1 x2 x3 x4 σ = ((1 : Int32), TM σ x1.toNatClampNeg x2 (if 0 ≤ x2.toInt then x3 else 0)) := by
  intro n hn
  cases n with
  | zero => exact absurd hn (Nat.not_lt_zero _)
  | succ n =>
    show LB_X12_tape_44 (LF_X12_tape n) x1 x2 x3 σ = _
    have z : (0 : Int32).toNatClampNeg = 0 := by decide +kernel
    have k : (60 - (0 : Int32).toInt).toNat < n := by show (60 - (0 : Int)).toNat < n; omega
    unfold LB_X12_tape_44
    simp only [fl_mk]
    rw [LF_mtape h0 h5 n 0 _ (by decide +kernel) (by decide +kernel) k, LF_mtape h0 h5 n 0 _ (by decide +kernel) (by decide +kernel) k, z]
    unfold TM
    by_cases c : 0 ≤ x2.toInt
    · rw [if_pos (i_le (a := (0 : Int32)) c), if_pos c]
      rfl
    · rw [if_neg (i_nle (a := (0 : Int32)) (by show x2.toInt < 0; omega)), if_neg c]
      rfl
theorem N_xtape {a1 a2 a3 : Int32} {σ : Sg} : F_X11_tape a1 a2 a3 σ = if 0 ≤ a1.toInt ∧ a1.toInt ≤ 5 then (if a2.toInt = -1 then ((1 : Int32), TX σ (52 + 2 * a1.toNatClampNeg) (-1) 0) else if a2.toInt < -1 ∨ 4 < a2.toInt ∨ 60 < a3.toInt then ((-2 : Int32), σ) else if a3.toInt < 0 then ((-14 : Int32), σ) else ((1 : Int32), TX σ (52 + 2 * a1.toNatClampNeg) a2 a3)) else ((-1 : Int32), σ) := by
  unfold F_X11_tape
  rw [F_isTape, fb_mk, ite_10]
  simp only [F_becomes, fl_mk, Int32.lt_iff_toInt_lt, Int32.le_iff_toInt_le, ← Int32.toInt_inj]
  have z0 : (0 : Int32).toInt = 0 := rfl
  have z1 : (-1 : Int32).toInt = -1 := rfl
  have z4 : (4 : Int32).toInt = 4 := rfl
  have z60 : (60 : Int32).toInt = 60 := rfl
  (repeat' split) <;> first | rfl | (exfalso; omega)
theorem N_mtape {a1 a2 a3 : Int32} {σ : Sg} : F_X12_tape a1 a2 a3 σ = if 0 ≤ a1.toInt ∧ a1.toInt ≤ 5 then (if a2.toInt = -1 then ((1 : Int32), TM σ a1.toNatClampNeg a2 0) else if a2.toInt < -1 ∨ 4 < a2.toInt ∨ 60 < a3.toInt then ((-2 : Int32), σ) else if a3.toInt < 0 then ((-14 : Int32), σ) else ((1 : Int32), TM σ a1.toNatClampNeg a2 a3)) else ((-1 : Int32), σ) := by
  unfold F_X12_tape
  rw [F_misTape, fb_mk, ite_10]
  have z0 : (0 : Int32).toInt = 0 := rfl
  have z1 : (-1 : Int32).toInt = -1 := rfl
  have z4 : (4 : Int32).toInt = 4 := rfl
  have z60 : (60 : Int32).toInt = 60 := rfl
  by_cases c : 0 ≤ a1.toInt ∧ a1.toInt ≤ 5
  · rw [if_pos c, if_pos c, F_in, fb_mk, ite_10, LF_mtape0 c.1 c.2 200 (by decide +kernel)]
    simp only [Int32.lt_iff_toInt_lt, Int32.le_iff_toInt_le]
    (repeat' split) <;> first | rfl | (exfalso; omega)
  · rw [if_neg c, if_neg c]
theorem N_xshift {a1 a2 a3 a4 a5 : Int32} {σ : Sg} (h0 : 0 ≤ a1.toInt → a1.toInt ≤ 5 → 0 ≤ (gi σ (52 + 2 * a1.toNatClampNeg) 2).toInt ∧ (gi σ (52 + 2 * a1.toNatClampNeg) 2).toInt ≤ 60) (h1 : 0 ≤ a3.toInt → a3.toInt ≤ 5 → 0 ≤ (gi σ (52 + 2 * a3.toNatClampNeg) 2).toInt ∧ (gi σ (52 + 2 * a3.toNatClampNeg) 2).toInt ≤ 60) : F_X11_shift a1 a2 a3 a4 a5 σ = if (0 ≤ a1.toInt ∧ a1.toInt ≤ 5) ∧ (0 ≤ a3.toInt ∧ a3.toInt ≤ 5) then (if (gi σ (52 + 2 * a1.toNatClampNeg) 1).toInt < 0 ∨ (gi σ (52 + 2 * a3.toNatClampNeg) 1).toInt < 0 then ((-11 : Int32), σ) else if (gi σ (52 + 2 * a1.toNatClampNeg) 1).toInt = (gi σ (52 + 2 * a3.toNatClampNeg) 1).toInt then (if (0 ≤ a5.toInt ∧ 0 ≤ a2.toInt ∧ a2.toInt ≤ (gi σ (52 + 2 * a1.toNatClampNeg) 2).toInt - a5.toInt) ∧ (0 ≤ a5.toInt ∧ 0 ≤ a4.toInt ∧ a4.toInt ≤ (gi σ (52 + 2 * a3.toNatClampNeg) 2).toInt - a5.toInt) then (a5, sla σ (52 + 2 * a3.toNatClampNeg + 1) (va_cpy (σ.2.1 (52 + 2 * a1.toNatClampNeg + 1)) (σ.2.1 (52 + 2 * a3.toNatClampNeg + 1)) a2.toNatClampNeg a4.toNatClampNeg a5.toNatClampNeg)) else ((-13 : Int32), σ)) else ((-12 : Int32), σ)) else ((-1 : Int32), σ) := by
  unfold F_X11_shift
  rw [F_isTape, fb_mk, ite_10]
  by_cases c : 0 ≤ a1.toInt ∧ a1.toInt ≤ 5
  · rw [if_pos c, F_isTape, fb_mk, ite_10]
    by_cases c3 : 0 ≤ a3.toInt ∧ a3.toInt ≤ 5
    · obtain ⟨p0, p1⟩ := h0 c.1 c.2
      obtain ⟨p2, p3⟩ := h1 c3.1 c3.2
      rw [if_pos c3, if_pos (And.intro c c3), F_isEmpty, fb_mk, ite_10]
      by_cases d : (gi σ (52 + 2 * a1.toNatClampNeg) 1).toInt < 0
      · rw [if_pos d, if_pos (Or.inl d)]
      rw [if_neg d, F_isEmpty, fb_mk, ite_10]
      by_cases d3 : (gi σ (52 + 2 * a3.toNatClampNeg) 1).toInt < 0
      · rw [if_pos d3, if_pos (Or.inr d3)]
      rw [if_neg d3, if_neg (show ¬ ((gi σ (52 + 2 * a1.toNatClampNeg) 1).toInt < 0 ∨ (gi σ (52 + 2 * a3.toNatClampNeg) 1).toInt < 0) by omega)]
      by_cases e : (gi σ (52 + 2 * a1.toNatClampNeg) 1).toInt = (gi σ (52 + 2 * a3.toNatClampNeg) 1).toInt
      · rw [if_pos (i_eq e), if_pos e, F_hasPart p0 p1, fb_mk, ite_10]
        by_cases g : 0 ≤ a5.toInt ∧ 0 ≤ a2.toInt ∧ a2.toInt ≤ (gi σ (52 + 2 * a1.toNatClampNeg) 2).toInt - a5.toInt
        · rw [if_pos g, F_hasPart p2 p3, fb_mk, ite_10]
          by_cases g3 : 0 ≤ a5.toInt ∧ 0 ≤ a4.toInt ∧ a4.toInt ≤ (gi σ (52 + 2 * a3.toNatClampNeg) 2).toInt - a5.toInt
          · rw [if_pos g3, if_pos (And.intro g g3)]; rfl
          · rw [if_neg g3, if_neg (fun h => g3 h.2)]
        · rw [if_neg g, if_neg (fun h => g h.1)]
      · rw [if_neg (i_ne e), if_neg e]
    · rw [if_neg c3, if_neg (fun h => c3 h.2)]
  · rw [if_neg c, if_neg (fun h => c h.1)]
theorem LF_mshift1 {x1 x2 x3 x4 x5 : Int32} (h30 : 0 ≤ x3.toInt) (h35 : x3.toInt ≤ 5) (h40 : 0 ≤ x4.toInt) (h50 : 0 ≤ x5.toInt) (h45 : x4.toInt + x5.toInt ≤ 60) : ∀ (n : Nat) (x6 : Int32) (σ : Sg), 0 ≤ x6.toInt → x6.toInt ≤ x5.toInt → (60 - x6.toInt).toNat < n → LF_X12_shift n 1 x1 x2 x3 x4 x5 x6 σ = (x5, sla σ 173 (fun j => if 60 * x3.toNatClampNeg + x4.toNatClampNeg + x6.toNatClampNeg ≤ j ∧ j < 60 * x3.toNatClampNeg + x4.toNatClampNeg + x5.toNatClampNeg then gl σ 174 (j - (60 * x3.toNatClampNeg + x4.toNatClampNeg)) else gl σ 173 j)) := by
  intro n
  induction n generalizing x1 x2 with
  | zero => intro x6 σ _ _ h; exact absurd h (Nat.not_lt_zero _)
  | succ n ih =>
    intro x6 σ g0 g6 hn
    show LB_X12_shift_141 (LF_X12_shift n) x3 x4 x5 x6 σ = _
    have c3 := cl_eq h30
    have c4 := cl_eq h40
    have c5 := cl_eq h50
    have c6 := cl_eq g0
    unfold LB_X12_shift_141
    by_cases c : x5.toInt ≤ x6.toInt
    · rw [if_pos (i_le c), sla_self (fun j => by rw [if_neg (by omega)])]
    · rw [if_neg (i_nle (by omega))]
      have e1 : (x6 + 1).toInt = x6.toInt + 1 := i_add (y := (1 : Int32)) (by show (_ : Int) ≤ x6.toInt + 1; omega) (by show x6.toInt + 1 ≤ (_ : Int); omega)
      have ec1 := cl_eq (x := x6 + 1) (by omega)
      have k1 : ((60 : Int32) * x3).toInt = 60 * x3.toInt := i_mull rfl (by omega) (by omega)
      have k2 : (((60 : Int32) * x3) + x4).toInt = ((60 : Int32) * x3).toInt + x4.toInt := i_add (by show (_ : Int) ≤ ((60 : Int32) * x3).toInt + x4.toInt; omega) (by show ((60 : Int32) * x3).toInt + x4.toInt ≤ (_ : Int); omega)
      have k3 : ((((60 : Int32) * x3) + x4) + x6).toInt = (((60 : Int32) * x3) + x4).toInt + x6.toInt := i_add (by show (_ : Int) ≤ (((60 : Int32) * x3) + x4).toInt + x6.toInt; omega) (by show (((60 : Int32) * x3) + x4).toInt + x6.toInt ≤ (_ : Int); omega)
      have k4 := cl_eq (x := (((60 : Int32) * x3) + x4) + x6) (by omega)
      show LF_X12_shift n 1 0 0 x3 x4 x5 (x6 + 1) (sl σ 173 ((((60 : Int32) * x3) + x4) + x6).toNatClampNeg (gl σ 174 x6.toNatClampNeg)) = _
      rw [ih (x6 + 1) _ (by omega) (by omega) (by omega), sl_sla, sla_sla]
      congr 1
      refine sla_ext (fun j => ?_)
      rw [gl_sla, if_neg (show ¬ (174 : Nat) = 173 by decide +kernel), gl_sla, if_pos rfl]
      by_cases q : j = ((((60 : Int32) * x3) + x4) + x6).toNatClampNeg
      · rw [if_neg (by omega), if_pos q, if_pos (by omega), show j - (60 * x3.toNatClampNeg + x4.toNatClampNeg) = x6.toNatClampNeg by omega]
      · rw [if_neg q]
        by_cases q2 : 60 * x3.toNatClampNeg + x4.toNatClampNeg + x6.toNatClampNeg ≤ j ∧ j < 60 * x3.toNatClampNeg + x4.toNatClampNeg + x5.toNatClampNeg
        · rw [if_pos (by omega), if_pos q2]
        · rw [if_neg (by omega), if_neg q2]
theorem LF_mshift0 {x1 x2 x3 x4 x5 : Int32} (h10 : 0 ≤ x1.toInt) (h15 : x1.toInt ≤ 5) (h20 : 0 ≤ x2.toInt) (h25 : x2.toInt + x5.toInt ≤ 60) (h30 : 0 ≤ x3.toInt) (h35 : x3.toInt ≤ 5) (h40 : 0 ≤ x4.toInt) (h50 : 0 ≤ x5.toInt) (h45 : x4.toInt + x5.toInt ≤ 60) : ∀ (n : Nat) (x6 : Int32) (σ : Sg), 0 ≤ x6.toInt → x6.toInt ≤ x5.toInt → (60 - x6.toInt).toNat + 100 < n → LF_X12_shift n 0 x1 x2 x3 x4 x5 x6 σ = (x5, sla (sla σ 174 (fun j => if x6.toNatClampNeg ≤ j ∧ j < x5.toNatClampNeg then gl σ 173 (60 * x1.toNatClampNeg + x2.toNatClampNeg + j) else gl σ 174 j)) 173 (fun j => if 60 * x3.toNatClampNeg + x4.toNatClampNeg ≤ j ∧ j < 60 * x3.toNatClampNeg + x4.toNatClampNeg + x5.toNatClampNeg then (if x6.toNatClampNeg ≤ j - (60 * x3.toNatClampNeg + x4.toNatClampNeg) then gl σ 173 (60 * x1.toNatClampNeg + x2.toNatClampNeg + (j - (60 * x3.toNatClampNeg + x4.toNatClampNeg))) else gl σ 174 (j - (60 * x3.toNatClampNeg + x4.toNatClampNeg))) else gl σ 173 j)) := by
  intro n
  induction n with
  | zero => intro x6 σ _ _ h; exact absurd h (Nat.not_lt_zero _)
  | succ n ih =>
    intro x6 σ g0 g6 hn
    show LB_X12_shift_104 (LF_X12_shift n) x1 x2 x3 x4 x5 x6 σ = _
    have c1 := cl_eq h10
    have c2 := cl_eq h20
    have c3 := cl_eq h30
    have c4 := cl_eq h40
    have c5 := cl_eq h50
    have c6 := cl_eq g0
    have z : (0 : Int32).toNatClampNeg = 0 := by decide +kernel
    unfold LB_X12_shift_104
    by_cases c : x5.toInt ≤ x6.toInt
    · rw [if_pos (i_le c), LF_mshift1 h30 h35 h40 h50 h45 n 0 σ (by decide +kernel) (by show (0 : Int) ≤ _; omega) (by show (60 - (0 : Int)).toNat < n; omega), z]
      congr 1
      rw [sla_self (a := 174) (fun j => by rw [if_neg (by omega)])]
      refine sla_ext (fun j => ?_)
      by_cases q2 : 60 * x3.toNatClampNeg + x4.toNatClampNeg ≤ j ∧ j < 60 * x3.toNatClampNeg + x4.toNatClampNeg + x5.toNatClampNeg
      · rw [if_pos (by omega), if_pos q2, if_neg (by omega)]
      · rw [if_neg (by omega), if_neg q2]
    · rw [if_neg (i_nle (by omega))]
      have e1 : (x6 + 1).toInt = x6.toInt + 1 := i_add (y := (1 : Int32)) (by show (_ : Int) ≤ x6.toInt + 1; omega) (by show x6.toInt + 1 ≤ (_ : Int); omega)
      have ec1 := cl_eq (x := x6 + 1) (by omega)
      have k1 : ((60 : Int32) * x1).toInt = 60 * x1.toInt := i_mull rfl (by omega) (by omega)
      have k2 : (((60 : Int32) * x1) + x2).toInt = ((60 : Int32) * x1).toInt + x2.toInt := i_add (by show (_ : Int) ≤ ((60 : Int32) * x1).toInt + x2.toInt; omega) (by show ((60 : Int32) * x1).toInt + x2.toInt ≤ (_ : Int); omega)
      have k3 : ((((60 : Int32) * x1) + x2) + x6).toInt = (((60 : Int32) * x1) + x2).toInt + x6.toInt := i_add (by show (_ : Int) ≤ (((60 : Int32) * x1) + x2).toInt + x6.toInt; omega) (by show (((60 : Int32) * x1) + x2).toInt + x6.toInt ≤ (_ : Int); omega)
      have k4 := cl_eq (x := (((60 : Int32) * x1) + x2) + x6) (by omega)
      show LF_X12_shift n 0 x1 x2 x3 x4 x5 (x6 + 1) (sl σ 174 x6.toNatClampNeg (gl σ 173 ((((60 : Int32) * x1) + x2) + x6).toNatClampNeg)) = _
      rw [ih (x6 + 1) _ (by omega) (by omega) (by omega), sl_sla, sla_sla]
      have e6 : ((((60 : Int32) * x1) + x2) + x6).toNatClampNeg = 60 * x1.toNatClampNeg + x2.toNatClampNeg + x6.toNatClampNeg := by omega
      congr 1
      have ea : sla σ 174 (fun j => if (x6 + 1).toNatClampNeg ≤ j ∧ j < x5.toNatClampNeg then gl (sla σ 174 (fun j => if j = x6.toNatClampNeg then gl σ 173 ((((60 : Int32) * x1) + x2) + x6).toNatClampNeg else gl σ 174 j)) 173 (60 * x1.toNatClampNeg + x2.toNatClampNeg + j) else gl (sla σ 174 (fun j => if j = x6.toNatClampNeg then gl σ 173 ((((60 : Int32) * x1) + x2) + x6).toNatClampNeg else gl σ 174 j)) 174 j) = sla σ 174 (fun j => if x6.toNatClampNeg ≤ j ∧ j < x5.toNatClampNeg then gl σ 173 (60 * x1.toNatClampNeg + x2.toNatClampNeg + j) else gl σ 174 j) := by
        refine sla_ext (fun j => ?_)
        rw [gl_sla, if_neg (show ¬ (173 : Nat) = 174 by decide +kernel), gl_sla, if_pos rfl]
        by_cases q : j = x6.toNatClampNeg
        · rw [if_neg (by omega), if_pos q, if_pos (by omega), e6, q]
        · rw [if_neg q]
          by_cases q2 : x6.toNatClampNeg ≤ j ∧ j < x5.toNatClampNeg
          · rw [if_pos (by omega), if_pos q2]
          · rw [if_neg (by omega), if_neg q2]
      rw [ea]
      refine sla_ext (fun j => ?_)
      rw [gl_sla, if_neg (show ¬ (173 : Nat) = 174 by decide +kernel), gl_sla, if_pos rfl, gl_sla, if_neg (show ¬ (173 : Nat) = 174 by decide +kernel)]
      by_cases q2 : 60 * x3.toNatClampNeg + x4.toNatClampNeg ≤ j ∧ j < 60 * x3.toNatClampNeg + x4.toNatClampNeg + x5.toNatClampNeg
      · rw [if_pos q2, if_pos q2]
        by_cases q : j - (60 * x3.toNatClampNeg + x4.toNatClampNeg) = x6.toNatClampNeg
        · rw [if_neg (by omega), if_pos q, if_pos (by omega), e6, q]
        · rw [if_neg q]
          by_cases q3 : x6.toNatClampNeg ≤ j - (60 * x3.toNatClampNeg + x4.toNatClampNeg)
          · rw [if_pos (by omega), if_pos q3]
          · rw [if_neg (by omega), if_neg q3]
      · rw [if_neg q2, if_neg q2]
/-- the model's row behind a shift -/
noncomputable def SM (σ : Sg) (i j n : Nat) : Sg := sla (sla σ 174 (fun k => if k < n then gl σ 173 (i + k) else gl σ 174 k)) 173 (fun k => if j ≤ k ∧ k < j + n then gl σ 173 (i + (k - j)) else gl σ 173 k)
theorem LF_mshift {x1 x2 x3 x4 x5 : Int32} {σ : Sg} (h10 : 0 ≤ x1.toInt) (h15 : x1.toInt ≤ 5) (h20 : 0 ≤ x2.toInt) (h25 : x2.toInt + x5.toInt ≤ 60) (h30 : 0 ≤ x3.toInt) (h35 : x3.toInt ≤ 5) (h40 : 0 ≤ x4.toInt) (h50 : 0 ≤ x5.toInt) (h45 : x4.toInt + x5.toInt ≤ 60) : LF_X12_shift 300 0 x1 x2 x3 x4 x5 0 σ = (x5, SM σ (60 * x1.toNatClampNeg + x2.toNatClampNeg) (60 * x3.toNatClampNeg + x4.toNatClampNeg) x5.toNatClampNeg) := by
  rw [LF_mshift0 h10 h15 h20 h25 h30 h35 h40 h50 h45 300 0 σ (by decide +kernel) (by show (0 : Int) ≤ _; omega) (by decide +kernel)]
  have z : (0 : Int32).toNatClampNeg = 0 := by decide +kernel
  unfold SM
  congr 1
  have ea : sla σ 174 (fun j => if (0 : Int32).toNatClampNeg ≤ j ∧ j < x5.toNatClampNeg then gl σ 173 (60 * x1.toNatClampNeg + x2.toNatClampNeg + j) else gl σ 174 j) = sla σ 174 (fun k => if k < x5.toNatClampNeg then gl σ 173 (60 * x1.toNatClampNeg + x2.toNatClampNeg + k) else gl σ 174 k) := by
    refine sla_ext (fun j => ?_)
    by_cases q : j < x5.toNatClampNeg
    · rw [if_pos (by omega), if_pos q]
    · rw [if_neg (by omega), if_neg q]
  rw [ea]
  refine sla_ext (fun j => ?_)
  by_cases q2 : 60 * x3.toNatClampNeg + x4.toNatClampNeg ≤ j ∧ j < 60 * x3.toNatClampNeg + x4.toNatClampNeg + x5.toNatClampNeg
  · rw [if_pos q2, if_pos q2, if_pos (by omega)]
  · rw [if_neg q2, if_neg q2]
theorem N_mshift {a1 a2 a3 a4 a5 : Int32} {σ : Sg} (h0 : 0 ≤ a1.toInt → a1.toInt ≤ 5 → 0 ≤ (gi σ 172 a1.toNatClampNeg).toInt ∧ (gi σ 172 a1.toNatClampNeg).toInt ≤ 60) (h1 : 0 ≤ a3.toInt → a3.toInt ≤ 5 → 0 ≤ (gi σ 172 a3.toNatClampNeg).toInt ∧ (gi σ 172 a3.toNatClampNeg).toInt ≤ 60) : F_X12_shift a1 a2 a3 a4 a5 σ = if (0 ≤ a1.toInt ∧ a1.toInt ≤ 5) ∧ (0 ≤ a3.toInt ∧ a3.toInt ≤ 5) then (if (gi σ 171 a1.toNatClampNeg).toInt < 0 ∨ (gi σ 171 a3.toNatClampNeg).toInt < 0 then ((-11 : Int32), σ) else if (gi σ 171 a1.toNatClampNeg).toInt = (gi σ 171 a3.toNatClampNeg).toInt then (if (0 ≤ a5.toInt ∧ 0 ≤ a2.toInt ∧ a2.toInt ≤ (gi σ 172 a1.toNatClampNeg).toInt - a5.toInt) ∧ (0 ≤ a5.toInt ∧ 0 ≤ a4.toInt ∧ a4.toInt ≤ (gi σ 172 a3.toNatClampNeg).toInt - a5.toInt) then (a5, SM σ (60 * a1.toNatClampNeg + a2.toNatClampNeg) (60 * a3.toNatClampNeg + a4.toNatClampNeg) a5.toNatClampNeg) else ((-13 : Int32), σ)) else ((-12 : Int32), σ)) else ((-1 : Int32), σ) := by
  unfold F_X12_shift
  rw [F_misTape, fb_mk, ite_10]
  by_cases c : 0 ≤ a1.toInt ∧ a1.toInt ≤ 5
  · rw [if_pos c, F_misTape, fb_mk, ite_10]
    by_cases c3 : 0 ≤ a3.toInt ∧ a3.toInt ≤ 5
    · obtain ⟨p0, p1⟩ := h0 c.1 c.2
      obtain ⟨p2, p3⟩ := h1 c3.1 c3.2
      rw [if_pos c3, if_pos (And.intro c c3)]
      by_cases d : (gi σ 171 a1.toNatClampNeg).toInt < 0
      · rw [if_pos (i_lt0 d), if_pos (Or.inl d)]
      rw [if_neg (i_nlt0 (by omega))]
      by_cases d3 : (gi σ 171 a3.toNatClampNeg).toInt < 0
      · rw [if_neg (i_nle (a := (0 : Int32)) d3), if_pos (Or.inr d3)]
      rw [if_pos (i_le (a := (0 : Int32)) (b := gi σ 171 a3.toNatClampNeg) (by show (0 : Int) ≤ _; omega)), if_neg (show ¬ ((gi σ 171 a1.toNatClampNeg).toInt < 0 ∨ (gi σ 171 a3.toNatClampNeg).toInt < 0) by omega)]
      by_cases e : (gi σ 171 a1.toNatClampNeg).toInt = (gi σ 171 a3.toNatClampNeg).toInt
      · rw [if_pos (i_eq e), if_pos e]
        by_cases f5 : a5.toInt < 0
        · rw [if_pos (i_lt0 f5), if_neg (by omega)]
        rw [if_neg (i_nlt0 (by omega))]
        by_cases f2 : a2.toInt < 0
        · rw [if_pos (i_lt0 f2), if_neg (by omega)]
        rw [if_neg (i_nlt0 (by omega))]
        by_cases f4 : a4.toInt < 0
        · rw [if_pos (i_lt0 f4), if_neg (by omega)]
        rw [if_neg (i_nlt0 (by omega))]
        have e1 : ((gi σ 172 a1.toNatClampNeg) - a5).toInt = (gi σ 172 a1.toNatClampNeg).toInt - a5.toInt := i_sub (by show (_ : Int) ≤ (gi σ 172 a1.toNatClampNeg).toInt - a5.toInt; have := Int32.toInt_lt a5; omega) (by show (gi σ 172 a1.toNatClampNeg).toInt - a5.toInt ≤ (_ : Int); omega)
        have e3 : ((gi σ 172 a3.toNatClampNeg) - a5).toInt = (gi σ 172 a3.toNatClampNeg).toInt - a5.toInt := i_sub (by show (_ : Int) ≤ (gi σ 172 a3.toNatClampNeg).toInt - a5.toInt; have := Int32.toInt_lt a5; omega) (by show (gi σ 172 a3.toNatClampNeg).toInt - a5.toInt ≤ (_ : Int); omega)
        by_cases g : (gi σ 172 a1.toNatClampNeg).toInt - a5.toInt < a2.toInt
        · rw [if_pos (i_lt (by rw [e1]; exact g)), if_neg (by omega)]
        rw [if_neg (i_nlt (by rw [e1]; omega))]
        by_cases g3 : a4.toInt ≤ (gi σ 172 a3.toNatClampNeg).toInt - a5.toInt
        · rw [if_pos (i_le (by rw [e3]; exact g3)), if_pos (by omega), LF_mshift c.1 c.2 (by omega) (by omega) c3.1 c3.2 (by omega) (by omega) (by omega)]
        · rw [if_neg (i_nle (by rw [e3]; omega)), if_neg (by omega)]
      · rw [if_neg (i_ne e), if_neg e]
    · rw [if_neg c3, if_neg (fun h => c3 h.2)]
  · rw [if_neg c, if_neg (fun h => c h.1)]
theorem TAP_T {σ : Sg} {t : Nat} {s n : Int32} (q : TAP σ) (ht : t < 6) (hs : s.toInt < 0 → n.toInt = 0) : TAP (TM (TX σ (52 + 2 * t) s n) t s n) := by
  intro u hu
  obtain ⟨q1, q2, q3, q4⟩ := q u hu
  have A : ∀ k, gi (TM (TX σ (52 + 2 * t) s n) t s n) (52 + 2 * u) k = if u = t ∧ k = 2 then n else if u = t ∧ k = 1 then s else gi σ (52 + 2 * u) k := fun k => by
    unfold TM TX
    rw [gi_sla, gi_si, if_neg (by omega), gi_si, if_neg (by omega), gi_sla, gi_si, gi_si]
    by_cases e : u = t
    · subst e
      by_cases k2 : k = 2 <;> by_cases k1 : k = 1 <;> simp [k1, k2]
    · rw [if_neg (by omega), if_neg (by omega), if_neg (by omega), if_neg (by omega)]
  have B1 : gi (TM (TX σ (52 + 2 * t) s n) t s n) 171 u = if u = t then s else gi σ 171 u := by
    unfold TM TX
    rw [gi_sla, gi_si, if_neg (by omega), gi_si]
    by_cases e : u = t
    · rw [if_pos ⟨rfl, e⟩, if_pos e]
    · rw [if_neg (fun h => e h.2), if_neg e, gi_sla, gi_si, if_neg (by omega), gi_si, if_neg (by omega)]
  have B2 : gi (TM (TX σ (52 + 2 * t) s n) t s n) 172 u = if u = t then n else gi σ 172 u := by
    unfold TM TX
    rw [gi_sla, gi_si]
    by_cases e : u = t
    · rw [if_pos ⟨rfl, e⟩, if_pos e]
    · rw [if_neg (fun h => e h.2), if_neg e, gi_si, if_neg (by omega), gi_sla, gi_si, if_neg (by omega), gi_si, if_neg (by omega)]
  have C : ∀ i, i < 60 → gl (TM (TX σ (52 + 2 * t) s n) t s n) (52 + 2 * u + 1) i = if u = t then 0 else gl σ (52 + 2 * u + 1) i := fun i hi => by
    unfold TM TX
    rw [gl_sla, if_neg (by omega), gl_si, gl_si, gl_sla]
    by_cases e : u = t
    · rw [if_pos (by omega), if_pos hi, if_pos e]
    · rw [if_neg (by omega), if_neg e, gl_si, gl_si]
  have D : ∀ i, i < 60 → gl (TM (TX σ (52 + 2 * t) s n) t s n) 173 (60 * u + i) = if u = t then 0 else gl σ 173 (60 * u + i) := fun i hi => by
    unfold TM TX
    rw [gl_sla, if_pos rfl]
    by_cases e : u = t
    · rw [if_pos (by omega), if_pos e]
    · rw [if_neg (by omega), if_neg e, gl_sla, if_neg (by omega), gl_si, gl_si]
  refine ⟨?_, ?_, ?_, fun i hi => ?_⟩
  · rw [A, B1]
    by_cases e : u = t
    · rw [if_neg (by omega), if_pos ⟨e, rfl⟩, if_pos e]
    · rw [if_neg (by omega), if_neg (fun h => e h.1), if_neg e]; exact q1
  · rw [A, B2]
    by_cases e : u = t
    · rw [if_pos ⟨e, rfl⟩, if_pos e]
    · rw [if_neg (fun h => e h.1), if_neg (fun h => e h.1), if_neg e]; exact q2
  · rw [B1, B2]
    by_cases e : u = t
    · rw [if_pos e, if_pos e]; exact hs
    · rw [if_neg e, if_neg e]; exact q3
  · rw [C i hi, D i hi]
    by_cases e : u = t
    · rw [if_pos e, if_pos e]
    · rw [if_neg e, if_neg e]; exact q4 i hi
/-- tape: both answer alike, and hold alike then -/
theorem TAP_tape {a1 a2 a3 r1 r2 : Int32} {σ σ1 σ2 : Sg} (q : TAP σ) (h1 : F_X11_tape a1 a2 a3 σ = (r1, σ1)) (h2 : F_X12_tape a1 a2 a3 σ1 = (r2, σ2)) : r1 = r2 ∧ TAP σ2 := by
  rw [N_xtape] at h1
  rw [N_mtape] at h2
  by_cases c : 0 ≤ a1.toInt ∧ a1.toInt ≤ 5
  · rw [if_pos c] at h1 h2
    have ec := cl_eq c.1
    by_cases c1 : a2.toInt = -1
    · rw [if_pos c1] at h1 h2
      have ea : a2 = -1 := i_eq (b := (-1 : Int32)) c1
      obtain ⟨rfl, rfl⟩ := Prod.mk.inj h1
      obtain ⟨rfl, rfl⟩ := Prod.mk.inj h2
      rw [ea]
      exact ⟨rfl, TAP_T q (by omega) (fun _ => rfl)⟩
    rw [if_neg c1] at h1 h2
    by_cases c2 : a2.toInt < -1 ∨ 4 < a2.toInt ∨ 60 < a3.toInt
    · rw [if_pos c2] at h1 h2
      obtain ⟨rfl, rfl⟩ := Prod.mk.inj h1
      obtain ⟨rfl, rfl⟩ := Prod.mk.inj h2
      exact ⟨rfl, q⟩
    rw [if_neg c2] at h1 h2
    by_cases c3 : a3.toInt < 0
    · rw [if_pos c3] at h1 h2
      obtain ⟨rfl, rfl⟩ := Prod.mk.inj h1
      obtain ⟨rfl, rfl⟩ := Prod.mk.inj h2
      exact ⟨rfl, q⟩
    rw [if_neg c3] at h1 h2
    obtain ⟨rfl, rfl⟩ := Prod.mk.inj h1
    obtain ⟨rfl, rfl⟩ := Prod.mk.inj h2
    exact ⟨rfl, TAP_T q (by omega) (fun h => by omega)⟩
  · rw [if_neg c] at h1 h2
    obtain ⟨rfl, rfl⟩ := Prod.mk.inj h1
    obtain ⟨rfl, rfl⟩ := Prod.mk.inj h2
    exact ⟨rfl, q⟩
theorem TAP_I {σ : Sg} {t k : Nat} {v : Int64} (q : TAP σ) (ht : t < 6) (hk : k < 60) : TAP (sl (sl σ (52 + 2 * t + 1) k v) 173 (60 * t + k) v) := by
  intro u hu
  obtain ⟨q1, q2, q3, q4⟩ := q u hu
  refine ⟨q1, q2, q3, fun i hi => ?_⟩
  rw [gl_sl, if_neg (by omega), gl_sl, gl_sl]
  by_cases e : u = t ∧ i = k
  · rw [if_pos (by omega), if_pos (by omega)]
  · rw [if_neg (by omega), if_neg (by omega), gl_sl, if_neg (by omega)]; exact q4 i hi
theorem TAP_item {a1 a2 r1 r2 : Int32} {a3 : Int64} {σ σ1 σ2 : Sg} (hb : ∀ t : Nat, t < 6 → 0 ≤ (gi σ (52 + 2 * t) 2).toInt ∧ (gi σ (52 + 2 * t) 2).toInt ≤ 60) (q : TAP σ) (h1 : F_X11_item a1 a2 a3 σ = (r1, σ1)) (h2 : F_X12_item a1 a2 a3 σ1 = (r2, σ2)) : r1 = r2 ∧ TAP σ2 := by
  rw [N_xitem] at h1
  by_cases c : 0 ≤ a1.toInt ∧ a1.toInt ≤ 5
  · have ec := cl_eq c.1
    have ht : a1.toNatClampNeg < 6 := by omega
    obtain ⟨q1, q2, q3, q4⟩ := q _ ht
    obtain ⟨b1, b2⟩ := hb _ ht
    have e1 : gi σ1 171 a1.toNatClampNeg = gi σ 171 a1.toNatClampNeg ∧ gi σ1 172 a1.toNatClampNeg = gi σ 172 a1.toNatClampNeg := by
      rw [if_pos c] at h1
      by_cases d : (gi σ (52 + 2 * a1.toNatClampNeg) 1).toInt < 0
      · rw [if_pos d] at h1; obtain ⟨-, rfl⟩ := Prod.mk.inj h1; exact ⟨rfl, rfl⟩
      rw [if_neg d] at h1
      by_cases d2 : 0 ≤ a2.toInt ∧ a2.toInt < (gi σ (52 + 2 * a1.toNatClampNeg) 2).toInt
      · rw [if_pos d2] at h1; obtain ⟨-, rfl⟩ := Prod.mk.inj h1; exact ⟨rfl, rfl⟩
      · rw [if_neg d2] at h1; obtain ⟨-, rfl⟩ := Prod.mk.inj h1; exact ⟨rfl, rfl⟩
    rw [N_mitem (by rw [e1.2, ← q2]; exact b1) (by rw [e1.2, ← q2]; exact b2), e1.1, e1.2, ← q1, ← q2] at h2
    rw [if_pos c] at h1 h2
    by_cases d : (gi σ (52 + 2 * a1.toNatClampNeg) 1).toInt < 0
    · rw [if_pos d] at h1 h2
      obtain ⟨rfl, rfl⟩ := Prod.mk.inj h1
      obtain ⟨rfl, rfl⟩ := Prod.mk.inj h2
      exact ⟨rfl, q⟩
    rw [if_neg d] at h1 h2
    by_cases d2 : 0 ≤ a2.toInt ∧ a2.toInt < (gi σ (52 + 2 * a1.toNatClampNeg) 2).toInt
    · rw [if_pos d2] at h1 h2
      obtain ⟨rfl, rfl⟩ := Prod.mk.inj h1
      obtain ⟨rfl, rfl⟩ := Prod.mk.inj h2
      have ek := cl_eq d2.1
      exact ⟨rfl, TAP_I q ht (by omega)⟩
    · rw [if_neg d2] at h1 h2
      obtain ⟨rfl, rfl⟩ := Prod.mk.inj h1
      obtain ⟨rfl, rfl⟩ := Prod.mk.inj h2
      exact ⟨rfl, q⟩
  · rw [if_neg c] at h1
    obtain ⟨rfl, rfl⟩ := Prod.mk.inj h1
    unfold F_X12_item at h2
    rw [F_misTape, fb_mk, ite_10, if_neg c] at h2
    obtain ⟨rfl, rfl⟩ := Prod.mk.inj h2
    exact ⟨rfl, q⟩
/-- read: both answer alike -/
theorem TAP_read {a1 a2 : Int32} {r1 r2 : Int64} {σ σ1 σ2 : Sg} (hb : ∀ t : Nat, t < 6 → 0 ≤ (gi σ (52 + 2 * t) 2).toInt ∧ (gi σ (52 + 2 * t) 2).toInt ≤ 60) (q : TAP σ) (h1 : F_X11_read a1 a2 σ = (r1, σ1)) (h2 : F_X12_read a1 a2 σ1 = (r2, σ2)) : r1 = r2 := by
  rw [N_xread] at h1
  by_cases c : 0 ≤ a1.toInt ∧ a1.toInt ≤ 5
  · have ec := cl_eq c.1
    have ht : a1.toNatClampNeg < 6 := by omega
    obtain ⟨q1, q2, q3, q4⟩ := q _ ht
    obtain ⟨b1, b2⟩ := hb _ ht
    rw [if_pos c] at h1
    have e1 : σ1 = σ := by
      by_cases d2 : 0 ≤ a2.toInt ∧ a2.toInt < (gi σ (52 + 2 * a1.toNatClampNeg) 2).toInt
      · rw [if_pos d2] at h1; exact (Prod.mk.inj h1).2.symm
      · rw [if_neg d2] at h1; exact (Prod.mk.inj h1).2.symm
    subst e1
    rw [N_mread (by rw [← q2]; exact b1) (by rw [← q2]; exact b2), if_pos c, ← q2] at h2
    rw [← q2] at q3
    by_cases d2 : 0 ≤ a2.toInt ∧ a2.toInt < (gi σ1 (52 + 2 * a1.toNatClampNeg) 2).toInt
    · have ek := cl_eq d2.1
      rw [if_pos d2] at h1 h2
      rw [if_neg (fun h => by have := q3 h; omega)] at h2
      rw [← (Prod.mk.inj h1).1, ← (Prod.mk.inj h2).1]
      exact q4 _ (by omega)
    · rw [if_neg d2] at h1 h2
      rw [← (Prod.mk.inj h1).1]
      by_cases d : (gi σ1 171 a1.toNatClampNeg).toInt < 0
      · rw [if_pos d] at h2; exact (Prod.mk.inj h2).1
      · rw [if_neg d] at h2; exact (Prod.mk.inj h2).1
  · rw [if_neg c] at h1
    obtain ⟨rfl, rfl⟩ := Prod.mk.inj h1
    unfold F_X12_read at h2
    rw [F_misTape, fb_mk, ite_10, if_neg c] at h2
    exact (Prod.mk.inj h2).1
theorem TAP_S {σ : Sg} {t o i j n : Nat} (q : TAP σ) (ht : t < 6) (ho : o < 6) (hi : i + n ≤ 60) (hj : j + n ≤ 60) : TAP (SM (sla σ (52 + 2 * o + 1) (va_cpy (σ.2.1 (52 + 2 * t + 1)) (σ.2.1 (52 + 2 * o + 1)) i j n)) (60 * t + i) (60 * o + j) n) := by
  intro u hu
  obtain ⟨q1, q2, q3, q4⟩ := q u hu
  refine ⟨q1, q2, q3, fun k hk => ?_⟩
  unfold SM
  have e1 : ∀ g h : Nat → Int64, gl (sla (sla (sla σ (52 + 2 * o + 1) (va_cpy (σ.2.1 (52 + 2 * t + 1)) (σ.2.1 (52 + 2 * o + 1)) i j n)) 174 g) 173 h) (52 + 2 * u + 1) k = if 52 + 2 * u + 1 = 52 + 2 * o + 1 then va_cpy (σ.2.1 (52 + 2 * t + 1)) (σ.2.1 (52 + 2 * o + 1)) i j n k else gl σ (52 + 2 * u + 1) k := fun g h => by
    rw [gl_sla, if_neg (show ¬ 52 + 2 * u + 1 = 173 by omega), gl_sla, if_neg (show ¬ 52 + 2 * u + 1 = 174 by omega), gl_sla]
  have e2 : ∀ x, gl (sla σ (52 + 2 * o + 1) (va_cpy (σ.2.1 (52 + 2 * t + 1)) (σ.2.1 (52 + 2 * o + 1)) i j n)) 173 x = gl σ 173 x := fun x => by
    rw [gl_sla, if_neg (show ¬ 173 = 52 + 2 * o + 1 by omega)]
  rw [e1, gl_sla, if_pos (rfl : 173 = 173), e2]
  rw [e2]
  by_cases e : u = o
  · subst e
    rw [if_pos rfl]
    unfold va_cpy
    by_cases d : j ≤ k ∧ k < j + n
    · rw [if_pos d, if_pos (show 60 * u + j ≤ 60 * u + k ∧ 60 * u + k < 60 * u + j + n by omega), show 60 * t + i + (60 * u + k - (60 * u + j)) = 60 * t + (i + (k - j)) by omega]
      exact (q t ht).2.2.2 _ (by omega)
    · rw [if_neg d, if_neg (show ¬ (60 * u + j ≤ 60 * u + k ∧ 60 * u + k < 60 * u + j + n) by omega)]
      exact q4 k hk
  · rw [if_neg (show ¬ 52 + 2 * u + 1 = 52 + 2 * o + 1 by omega), if_neg (show ¬ (60 * o + j ≤ 60 * u + k ∧ 60 * u + k < 60 * o + j + n) by omega)]
    exact q4 k hk
theorem TAP_shift {a1 a2 a3 a4 a5 r1 r2 : Int32} {σ σ1 σ2 : Sg} (hb : ∀ t : Nat, t < 6 → 0 ≤ (gi σ (52 + 2 * t) 2).toInt ∧ (gi σ (52 + 2 * t) 2).toInt ≤ 60) (q : TAP σ) (h1 : F_X11_shift a1 a2 a3 a4 a5 σ = (r1, σ1)) (h2 : F_X12_shift a1 a2 a3 a4 a5 σ1 = (r2, σ2)) : r1 = r2 ∧ TAP σ2 := by
  have tl : ∀ {a : Int32}, 0 ≤ a.toInt → a.toInt ≤ 5 → a.toNatClampNeg < 6 := fun {a} g0 g5 => by
    have := cl_eq g0
    omega
  rw [N_xshift (fun g0 g5 => hb _ (tl g0 g5)) (fun g0 g5 => hb _ (tl g0 g5))] at h1
  have e1 : ∀ k, gi σ1 171 k = gi σ 171 k ∧ gi σ1 172 k = gi σ 172 k := by
    by_cases c : (0 ≤ a1.toInt ∧ a1.toInt ≤ 5) ∧ (0 ≤ a3.toInt ∧ a3.toInt ≤ 5)
    · rw [if_pos c] at h1
      by_cases d : (gi σ (52 + 2 * a1.toNatClampNeg) 1).toInt < 0 ∨ (gi σ (52 + 2 * a3.toNatClampNeg) 1).toInt < 0
      · rw [if_pos d] at h1; obtain ⟨-, rfl⟩ := Prod.mk.inj h1; exact fun _ => ⟨rfl, rfl⟩
      rw [if_neg d] at h1
      by_cases e : (gi σ (52 + 2 * a1.toNatClampNeg) 1).toInt = (gi σ (52 + 2 * a3.toNatClampNeg) 1).toInt
      · rw [if_pos e] at h1
        by_cases g : (0 ≤ a5.toInt ∧ 0 ≤ a2.toInt ∧ a2.toInt ≤ (gi σ (52 + 2 * a1.toNatClampNeg) 2).toInt - a5.toInt) ∧ (0 ≤ a5.toInt ∧ 0 ≤ a4.toInt ∧ a4.toInt ≤ (gi σ (52 + 2 * a3.toNatClampNeg) 2).toInt - a5.toInt)
        · rw [if_pos g] at h1; obtain ⟨-, rfl⟩ := Prod.mk.inj h1; exact fun _ => ⟨rfl, rfl⟩
        · rw [if_neg g] at h1; obtain ⟨-, rfl⟩ := Prod.mk.inj h1; exact fun _ => ⟨rfl, rfl⟩
      · rw [if_neg e] at h1; obtain ⟨-, rfl⟩ := Prod.mk.inj h1; exact fun _ => ⟨rfl, rfl⟩
    · rw [if_neg c] at h1; obtain ⟨-, rfl⟩ := Prod.mk.inj h1; exact fun _ => ⟨rfl, rfl⟩
  have hm : ∀ {a : Int32}, 0 ≤ a.toInt → a.toInt ≤ 5 → 0 ≤ (gi σ1 172 a.toNatClampNeg).toInt ∧ (gi σ1 172 a.toNatClampNeg).toInt ≤ 60 := fun {a} g0 g5 => by
    rw [(e1 _).2, ← (q _ (tl g0 g5)).2.1]
    exact hb _ (tl g0 g5)
  rw [N_mshift (fun g0 g5 => hm g0 g5) (fun g0 g5 => hm g0 g5)] at h2
  by_cases c : (0 ≤ a1.toInt ∧ a1.toInt ≤ 5) ∧ (0 ≤ a3.toInt ∧ a3.toInt ≤ 5)
  · have t1 := tl c.1.1 c.1.2
    have t3 := tl c.2.1 c.2.2
    rw [if_pos c, (e1 a1.toNatClampNeg).1, (e1 a1.toNatClampNeg).2, (e1 a3.toNatClampNeg).1, (e1 a3.toNatClampNeg).2, ← (q _ t1).1, ← (q _ t1).2.1, ← (q _ t3).1, ← (q _ t3).2.1] at h2
    rw [if_pos c] at h1
    obtain ⟨b1, b2⟩ := hb _ t1
    obtain ⟨b3, b4⟩ := hb _ t3
    by_cases d : (gi σ (52 + 2 * a1.toNatClampNeg) 1).toInt < 0 ∨ (gi σ (52 + 2 * a3.toNatClampNeg) 1).toInt < 0
    · rw [if_pos d] at h1 h2
      obtain ⟨rfl, rfl⟩ := Prod.mk.inj h1
      obtain ⟨rfl, rfl⟩ := Prod.mk.inj h2
      exact ⟨rfl, q⟩
    rw [if_neg d] at h1 h2
    by_cases e : (gi σ (52 + 2 * a1.toNatClampNeg) 1).toInt = (gi σ (52 + 2 * a3.toNatClampNeg) 1).toInt
    · rw [if_pos e] at h1 h2
      by_cases g : (0 ≤ a5.toInt ∧ 0 ≤ a2.toInt ∧ a2.toInt ≤ (gi σ (52 + 2 * a1.toNatClampNeg) 2).toInt - a5.toInt) ∧ (0 ≤ a5.toInt ∧ 0 ≤ a4.toInt ∧ a4.toInt ≤ (gi σ (52 + 2 * a3.toNatClampNeg) 2).toInt - a5.toInt)
      · rw [if_pos g] at h1 h2
        obtain ⟨rfl, rfl⟩ := Prod.mk.inj h1
        obtain ⟨rfl, rfl⟩ := Prod.mk.inj h2
        have k2 := cl_eq (x := a2) (by omega)
        have k4 := cl_eq (x := a4) (by omega)
        have k5 := cl_eq (x := a5) (by omega)
        exact ⟨rfl, TAP_S q t1 t3 (by omega) (by omega)⟩
      · rw [if_neg g] at h1 h2
        obtain ⟨rfl, rfl⟩ := Prod.mk.inj h1
        obtain ⟨rfl, rfl⟩ := Prod.mk.inj h2
        exact ⟨rfl, q⟩
    · rw [if_neg e] at h1 h2
      obtain ⟨rfl, rfl⟩ := Prod.mk.inj h1
      obtain ⟨rfl, rfl⟩ := Prod.mk.inj h2
      exact ⟨rfl, q⟩
  · rw [if_neg c] at h1 h2
    obtain ⟨rfl, rfl⟩ := Prod.mk.inj h1
    obtain ⟨rfl, rfl⟩ := Prod.mk.inj h2
    exact ⟨rfl, q⟩
/-! minutes, what is seen: by the arguments and what stands -/
noncomputable def MNA (m n : Int32) : Prop := (9999 ≤ m.toInt → n.toInt = m.toInt) ∧ (m.toInt < 9999 → n.toInt = m.toInt + 1)
noncomputable def WHA (r m n : Int32) : Prop := (9999 ≤ m.toInt → r.toInt = -3 ∧ n.toInt = m.toInt) ∧ (m.toInt < 9999 → r.toInt = n.toInt ∧ n.toInt = m.toInt + 1)
noncomputable def PAA (r a m n : Int32) : Prop := ((a.toInt < 1 ∨ 60 < a.toInt) → r.toInt = -2 ∧ n.toInt = m.toInt) ∧ (1 ≤ a.toInt → a.toInt ≤ 60 → (9999 < m.toInt + a.toInt → r.toInt = -3 ∧ n.toInt = m.toInt) ∧ (m.toInt + a.toInt ≤ 9999 → r.toInt = n.toInt ∧ n.toInt = m.toInt + a.toInt))
noncomputable def SEA (r a1 a2 a3 : Int32) (c n n2 : Int) : Prop := (a1.toInt = -1 → r.toInt = 0 ∧ n2 = 0) ∧ ((a1.toInt < -1 ∨ (a1.toInt ≠ -1 ∧ c ≤ a1.toInt)) → r.toInt = -1 ∧ n2 = n) ∧ (0 ≤ a1.toInt → a1.toInt < c → ((a2.toInt < 0 ∨ 30 < a2.toInt ∨ a3.toInt < 0 ∨ 9999 < a3.toInt) → r.toInt = -2 ∧ n2 = n) ∧ (0 ≤ a2.toInt → a2.toInt ≤ 30 → 0 ≤ a3.toInt → a3.toInt ≤ 9999 → (6 ≤ n → r.toInt = -4 ∧ n2 = n) ∧ (n < 6 → r.toInt = n + 1 ∧ n2 = n + 1)))
set_option maxRecDepth 100000 in
set_option maxHeartbeats 4000000 in
theorem kt_X11_minute {l : Launch} {V : Vx} {σ0 : Sg} {Qk : Int32 → Sg → Prop} (m0 : XI V σ0) (nn_1 : NN σ0 1) (pre0 : (gi σ0 1 9).toInt ≤ 9999) (h9ret : ∀ (r : Int32) (σ' : Sg), XI V σ' → FX (fun id => id = 15 ∨ id = 16 ∨ id = 4 ∨ id = 5 ∨ id = 6 ∨ id = 7) (fun id k => (id = 1 ∧ k = 9)) σ0 σ' → (NN σ' 1) → ((gi σ' 1 9).toInt ≤ 9999) → (MNA (gi σ0 1 9) (gi σ' 1 9)) → Qk r σ') : K_X11_minute l V σ0 Qk := by
  refine e_X11_minute (fun M hl hV hN C => ?_)
  subst hl
  subst hV
  have f0 : FX (fun id => id = 15 ∨ id = 16 ∨ id = 4 ∨ id = 5 ∨ id = 6 ∨ id = 7) (fun id k => (id = 1 ∧ k = 9)) σ0 σ0 := FX_rf
  have t_1 := XI_c1 m0 (id := 1) (k := 1) (lim_C0_1 (Or.inl rfl))
  have t_2 := XI_c1 m0 (id := 1) (k := 9) (lim_C0_9 (Or.inl rfl))
  refine s_X11_minute_0 C hN  ?_
  refine ⟨?_, ?_⟩
  · intro q_3
    have b_4 : (gi σ0 1 9).toInt < 9999 := Int32.lt_iff_toInt_lt.mp q_3
    refine k_X1_goesMinute (Or.inl rfl) m0 nn_1 (by first | with_reducible assumption | with_reducible rfl | omega | assumption | rfl) (fun r3 σ2 mσ2 cσ2 nσ2_1 (pσ2_0 : (gi σ2 1 9).toInt = (gi σ0 1 9).toInt + 1) => ?_)
    have fσ2 : FX (fun id => id = 15 ∨ id = 16 ∨ id = 4 ∨ id = 5 ∨ id = 6 ∨ id = 7) (fun id k => (id = 1 ∧ k = 9)) σ0 σ2 := FX_tr f0 cσ2 (fun x (h9 : x = 15 ∨ x = 16 ∨ x = 4 ∨ x = 5 ∨ x = 6 ∨ x = 7) => h9.elim (fun e9 => (show x = 15 ∨ x = 16 ∨ x = 4 ∨ x = 5 ∨ x = 6 ∨ x = 7 from Or.inl (e9))) (fun h9 => h9.elim (fun e9 => (show x = 15 ∨ x = 16 ∨ x = 4 ∨ x = 5 ∨ x = 6 ∨ x = 7 from Or.inr (Or.inl (e9)))) (fun h9 => h9.elim (fun e9 => (show x = 15 ∨ x = 16 ∨ x = 4 ∨ x = 5 ∨ x = 6 ∨ x = 7 from Or.inr (Or.inr (Or.inl (e9))))) (fun h9 => h9.elim (fun e9 => (show x = 15 ∨ x = 16 ∨ x = 4 ∨ x = 5 ∨ x = 6 ∨ x = 7 from Or.inr (Or.inr (Or.inr (Or.inl (e9)))))) (fun h9 => h9.elim (fun e9 => (show x = 15 ∨ x = 16 ∨ x = 4 ∨ x = 5 ∨ x = 6 ∨ x = 7 from Or.inr (Or.inr (Or.inr (Or.inr (Or.inl (e9))))))) (fun h9 => (show x = 15 ∨ x = 16 ∨ x = 4 ∨ x = 5 ∨ x = 6 ∨ x = 7 from Or.inr (Or.inr (Or.inr (Or.inr (Or.inr (h9)))))))))))) (fun x k (h9 : (x = 1 ∧ k = 9)) => (show (x = 15 ∨ x = 16 ∨ x = 4 ∨ x = 5 ∨ x = 6 ∨ x = 7) ∨ ((x = 1 ∧ k = 9)) from Or.inr (show (x = 1 ∧ k = 9) from h9)))
    have k_5 : (gi σ2 1 1).toInt = (gi σ0 1 1).toInt := congrArg Int32.toInt (FX_i cσ2 (show ¬ (1 = 15 ∨ 1 = 16 ∨ 1 = 4 ∨ 1 = 5 ∨ 1 = 6 ∨ 1 = 7) from by omega) (show ¬ ((1 = 1 ∧ 1 = 9)) from by omega))
    have t_6 := XI_c1 mσ2 (id := 1) (k := 9) (lim_C0_9 (Or.inl rfl))
    have w_7 := Int32.toInt_lt r3
    have w_8 := Int32.le_toInt r3
    exact h9ret r3 σ2 mσ2 fσ2 nσ2_1 (by first | with_reducible assumption | with_reducible rfl | omega | assumption | rfl) (by unfold MNA; omega)
  · intro q_3
    have b_9 : ¬ (gi σ0 1 9).toInt < 9999 := fun h9 => q_3 (Int32.lt_iff_toInt_lt.mpr h9)
    have z_10 : (-3 : Int32).toInt = -3 := rfl
    exact h9ret (-3 : Int32) σ0 m0 f0 nn_1 (by first | with_reducible assumption | with_reducible rfl | omega | assumption | rfl) (by unfold MNA; omega)
set_option maxRecDepth 100000 in
set_option maxHeartbeats 4000000 in
theorem kt_X11_whet {l : Launch} {V : Vx} {σ0 : Sg} {Qk : Int32 → Sg → Prop} (m0 : XI V σ0) (nn_1 : NN σ0 1) (pre0 : (gi σ0 1 9).toInt ≤ 9999) (h9ret : ∀ (r : Int32) (σ' : Sg), XI V σ' → FX (fun id => id = 5 ∨ id = 6 ∨ id = 7) (fun id k => (id = 1 ∧ k = 9)) σ0 σ' → (NN σ' 1) → ((gi σ' 1 9).toInt ≤ 9999) → (WHA r (gi σ0 1 9) (gi σ' 1 9)) → Qk r σ') : K_X11_whet l V σ0 Qk := by
  refine e_X11_whet (fun M hl hV hN C => ?_)
  subst hl
  subst hV
  have f0 : FX (fun id => id = 5 ∨ id = 6 ∨ id = 7) (fun id k => (id = 1 ∧ k = 9)) σ0 σ0 := FX_rf
  have t_1 := XI_c1 m0 (id := 1) (k := 1) (lim_C0_1 (Or.inl rfl))
  have t_2 := XI_c1 m0 (id := 1) (k := 9) (lim_C0_9 (Or.inl rfl))
  refine s_X11_whet_0 C hN  ?_
  refine ⟨?_, ?_⟩
  · intro q_3
    have b_4 : (gi σ0 1 9).toInt < 9999 := Int32.lt_iff_toInt_lt.mp q_3
    refine k_X1_whetsAll (Or.inl rfl) m0 nn_1 (by first | with_reducible assumption | with_reducible rfl | omega | assumption | rfl) (fun σ2 mσ2 cσ2 nσ2_1 (pσ2_0 : (gi σ2 1 9).toInt = (gi σ0 1 9).toInt + 1) => ?_)
    have fσ2 : FX (fun id => id = 5 ∨ id = 6 ∨ id = 7) (fun id k => (id = 1 ∧ k = 9)) σ0 σ2 := FX_tr f0 cσ2 (fun x (h9 : x = 5 ∨ x = 6 ∨ x = 7) => h9.elim (fun e9 => (show x = 5 ∨ x = 6 ∨ x = 7 from Or.inl (e9))) (fun h9 => h9.elim (fun e9 => (show x = 5 ∨ x = 6 ∨ x = 7 from Or.inr (Or.inl (e9)))) (fun h9 => (show x = 5 ∨ x = 6 ∨ x = 7 from Or.inr (Or.inr (h9)))))) (fun x k (h9 : (x = 1 ∧ k = 9)) => (show (x = 5 ∨ x = 6 ∨ x = 7) ∨ ((x = 1 ∧ k = 9)) from Or.inr (show (x = 1 ∧ k = 9) from h9)))
    have k_5 : (gi σ2 1 1).toInt = (gi σ0 1 1).toInt := congrArg Int32.toInt (FX_i cσ2 (show ¬ (1 = 5 ∨ 1 = 6 ∨ 1 = 7) from by omega) (show ¬ ((1 = 1 ∧ 1 = 9)) from by omega))
    have t_6 := XI_c1 mσ2 (id := 1) (k := 9) (lim_C0_9 (Or.inl rfl))
    exact h9ret (gi σ2 1 9) σ2 mσ2 fσ2 nσ2_1 (by first | with_reducible assumption | with_reducible rfl | omega | assumption | rfl) (by unfold WHA; omega)
  · intro q_3
    have b_7 : ¬ (gi σ0 1 9).toInt < 9999 := fun h9 => q_3 (Int32.lt_iff_toInt_lt.mpr h9)
    have z_8 : (-3 : Int32).toInt = -3 := rfl
    exact h9ret (-3 : Int32) σ0 m0 f0 nn_1 (by first | with_reducible assumption | with_reducible rfl | omega | assumption | rfl) (by unfold WHA; omega)
set_option maxRecDepth 100000 in
set_option maxHeartbeats 4000000 in
theorem kt_X11_pause {l : Launch} {V : Vx} {a1 : Int32} {σ0 : Sg} {Qk : Int32 → Sg → Prop} (m0 : XI V σ0) (nn_1 : NN σ0 1) (pre0 : (gi σ0 1 9).toInt ≤ 9999) (h9ret : ∀ (r : Int32) (σ' : Sg), XI V σ' → FX (fun id => id = 6 ∨ id = 7) (fun id k => (id = 1 ∧ k = 9)) σ0 σ' → (NN σ' 1) → ((gi σ' 1 9).toInt ≤ 9999) → (PAA r a1 (gi σ0 1 9) (gi σ' 1 9)) → Qk r σ') : K_X11_pause l V a1 σ0 Qk := by
  refine e_X11_pause (fun M hl hV hN C => ?_)
  subst hl
  subst hV
  have f0 : FX (fun id => id = 6 ∨ id = 7) (fun id k => (id = 1 ∧ k = 9)) σ0 σ0 := FX_rf
  have t_1 := XI_c1 m0 (id := 1) (k := 1) (lim_C0_1 (Or.inl rfl))
  have t_2 := XI_c1 m0 (id := 1) (k := 9) (lim_C0_9 (Or.inl rfl))
  refine s_X11_pause_0 C hN  ?_
  refine ⟨?_, ?_⟩
  · intro q_3
    have w_4 := Int32.toInt_lt a1
    have w_5 := Int32.le_toInt a1
    have b_6 : a1.toInt < 1 := Int32.lt_iff_toInt_lt.mp q_3
    have z_7 : (-2 : Int32).toInt = -2 := rfl
    exact h9ret (-2 : Int32) σ0 m0 f0 nn_1 (by first | with_reducible assumption | with_reducible rfl | omega | assumption | rfl) (by unfold PAA; omega)
  · intro q_3
    have w_8 := Int32.toInt_lt a1
    have w_9 := Int32.le_toInt a1
    have b_10 : ¬ a1.toInt < 1 := fun h9 => q_3 (Int32.lt_iff_toInt_lt.mpr h9)
    refine ⟨?_, ?_⟩
    · intro q_11
      have b_12 : a1.toInt ≤ 60 := Int32.le_iff_toInt_le.mp q_11
      refine ⟨?_, ?_⟩
      · intro q_13
        try have t_14 : ((gi σ0 1 9) + a1).toInt = (gi σ0 1 9).toInt + a1.toInt := i_add (x := (gi σ0 1 9)) (y := a1) (by show (_ : Int) ≤ (gi σ0 1 9).toInt + a1.toInt; omega) (by show (gi σ0 1 9).toInt + a1.toInt ≤ (_ : Int); omega)
        have b_15 : ((gi σ0 1 9) + a1).toInt ≤ 9999 := Int32.le_iff_toInt_le.mp q_13
        refine k_X1_rests (Or.inl rfl) m0 nn_1 (by omega) (by omega) (by first | with_reducible assumption | with_reducible rfl | omega | assumption | rfl) (fun σ4 mσ4 cσ4 nσ4_1 (pσ4_0 : (gi σ4 1 9).toInt = (gi σ0 1 9).toInt + a1.toInt) => ?_)
        have fσ4 : FX (fun id => id = 6 ∨ id = 7) (fun id k => (id = 1 ∧ k = 9)) σ0 σ4 := FX_tr f0 cσ4 (fun x (h9 : x = 6 ∨ x = 7) => h9.elim (fun e9 => (show x = 6 ∨ x = 7 from Or.inl (e9))) (fun h9 => (show x = 6 ∨ x = 7 from Or.inr (h9)))) (fun x k (h9 : (x = 1 ∧ k = 9)) => (show (x = 6 ∨ x = 7) ∨ ((x = 1 ∧ k = 9)) from Or.inr (show (x = 1 ∧ k = 9) from h9)))
        have k_16 : (gi σ4 1 1).toInt = (gi σ0 1 1).toInt := congrArg Int32.toInt (FX_i cσ4 (show ¬ (1 = 6 ∨ 1 = 7) from by omega) (show ¬ ((1 = 1 ∧ 1 = 9)) from by omega))
        have t_17 := XI_c1 mσ4 (id := 1) (k := 9) (lim_C0_9 (Or.inl rfl))
        exact h9ret (gi σ4 1 9) σ4 mσ4 fσ4 nσ4_1 (by first | with_reducible assumption | with_reducible rfl | omega | assumption | rfl) (by unfold PAA; omega)
      · intro q_13
        try have t_18 : ((gi σ0 1 9) + a1).toInt = (gi σ0 1 9).toInt + a1.toInt := i_add (x := (gi σ0 1 9)) (y := a1) (by show (_ : Int) ≤ (gi σ0 1 9).toInt + a1.toInt; omega) (by show (gi σ0 1 9).toInt + a1.toInt ≤ (_ : Int); omega)
        have b_19 : ¬ ((gi σ0 1 9) + a1).toInt ≤ 9999 := fun h9 => q_13 (Int32.le_iff_toInt_le.mpr h9)
        have z_20 : (-3 : Int32).toInt = -3 := rfl
        exact h9ret (-3 : Int32) σ0 m0 f0 nn_1 (by first | with_reducible assumption | with_reducible rfl | omega | assumption | rfl) (by unfold PAA; omega)
    · intro q_11
      have b_21 : ¬ a1.toInt ≤ 60 := fun h9 => q_11 (Int32.le_iff_toInt_le.mpr h9)
      have z_22 : (-2 : Int32).toInt = -2 := rfl
      exact h9ret (-2 : Int32) σ0 m0 f0 nn_1 (by first | with_reducible assumption | with_reducible rfl | omega | assumption | rfl) (by unfold PAA; omega)
set_option maxRecDepth 100000 in
set_option maxHeartbeats 4000000 in
theorem kt_X11_see {l : Launch} {V : Vx} {a1 : Int32} {a2 : Int32} {a3 : Int32} {σ0 : Sg} {Qk : Int32 → Sg → Prop} (m0 : XI V σ0) (pre0 : (gi σ0 9 1).toInt % 3 = 0) (h9ret : ∀ (r : Int32) (σ' : Sg), XI V σ' → FX (fun id => id = 10) (fun id k => (id = 9 ∧ k = 1)) σ0 σ' → ((gi σ' 9 1).toInt % 3 = 0) → (SEA r a1 a2 a3 (gi σ0 1 1).toInt ((gi σ0 9 1).toInt / 3) ((gi σ' 9 1).toInt / 3)) → Qk r σ') : K_X11_see l V a1 a2 a3 σ0 Qk := by
  refine e_X11_see (fun M hl hV hN C => ?_)
  subst hl
  subst hV
  have c9 : capI 9 = 18 := rfl
  have n9 : (nl 9 : Int) = 18 := by decide +kernel
  have f0 : FX (fun id => id = 10) (fun id k => (id = 9 ∧ k = 1)) σ0 σ0 := FX_rf
  have t_1 := XI_c1 m0 (id := 1) (k := 1) (lim_C0_1 (Or.inl rfl))
  have t_2 := XI_c1 m0 (id := 9) (k := 1) (lim_C8_1 (Or.inl rfl))
  refine s_X11_see_0 C hN  ?_
  refine ⟨?_, ?_⟩
  · intro q_3
    have w_4 := Int32.toInt_lt a1
    have w_5 := Int32.le_toInt a1
    have b_6 : ¬ a1.toInt = (-1) := fun h9 => q_3 (Int32.toInt_inj.mp h9)
    refine k_X11_isMower  m0   (fun r3 σ2 mσ2 cσ2 plσ2 phσ2 (pσ2_0 : (r3.toInt = 1 ∧ 0 ≤ a1.toInt ∧ a1.toInt < (gi σ0 1 1).toInt) ∨ (r3.toInt = 0 ∧ (a1.toInt < 0 ∨ (gi σ0 1 1).toInt ≤ a1.toInt))) => ?_)
    obtain rfl := FX_nil cσ2
    refine ⟨?_, ?_⟩
    · intro q_7
      have b_8 : ¬ r3.toInt = 0 := fun h9 => q_7 (Int32.toInt_inj.mp h9)
      refine ⟨?_, ?_⟩
      · intro q_9
        have w_10 := Int32.toInt_lt a2
        have w_11 := Int32.le_toInt a2
        have b_12 : a2.toInt < 0 := Int32.lt_iff_toInt_lt.mp q_9
        have z_13 : (-2 : Int32).toInt = -2 := rfl
        exact h9ret (-2 : Int32) σ0 m0 f0 (by first | with_reducible assumption | with_reducible rfl | omega | assumption | rfl) (by unfold SEA; omega)
      · intro q_9
        have w_14 := Int32.toInt_lt a2
        have w_15 := Int32.le_toInt a2
        have b_16 : ¬ a2.toInt < 0 := fun h9 => q_9 (Int32.lt_iff_toInt_lt.mpr h9)
        refine ⟨?_, ?_⟩
        · intro q_17
          have b_18 : (30 : Int) < a2.toInt := Int32.lt_iff_toInt_lt.mp q_17
          have z_19 : (-2 : Int32).toInt = -2 := rfl
          exact h9ret (-2 : Int32) σ0 m0 f0 (by first | with_reducible assumption | with_reducible rfl | omega | assumption | rfl) (by unfold SEA; omega)
        · intro q_17
          have b_20 : ¬ (30 : Int) < a2.toInt := fun h9 => q_17 (Int32.lt_iff_toInt_lt.mpr h9)
          refine ⟨?_, ?_⟩
          · intro q_21
            have w_22 := Int32.toInt_lt a3
            have w_23 := Int32.le_toInt a3
            have b_24 : a3.toInt < 0 := Int32.lt_iff_toInt_lt.mp q_21
            have z_25 : (-2 : Int32).toInt = -2 := rfl
            exact h9ret (-2 : Int32) σ0 m0 f0 (by first | with_reducible assumption | with_reducible rfl | omega | assumption | rfl) (by unfold SEA; omega)
          · intro q_21
            have w_26 := Int32.toInt_lt a3
            have w_27 := Int32.le_toInt a3
            have b_28 : ¬ a3.toInt < 0 := fun h9 => q_21 (Int32.lt_iff_toInt_lt.mpr h9)
            refine ⟨?_, ?_⟩
            · intro q_29
              have b_30 : a3.toInt ≤ 9999 := Int32.le_iff_toInt_le.mp q_29
              refine k_X5_isFull (isN_C8 (Or.inl rfl)) m0   (fun r10 σ9 mσ9 cσ9 plσ9 phσ9 (pσ9_0 : (r10.toInt = 1 ∧ (nl 9 : Int) ≤ (gi σ0 9 1).toInt) ∨ (r10.toInt = 0 ∧ (gi σ0 9 1).toInt < (nl 9 : Int))) => ?_)
              obtain rfl := FX_nil cσ9
              refine ⟨?_, ?_⟩
              · intro q_31
                have b_32 : r10.toInt = 0 := congrArg Int32.toInt q_31
                refine k_X5_comes (isN_C8 (Or.inl rfl)) m0  (by omega) (by first | exact okNum_b (by omega) (by omega) | exact okNum_9 (by omega)) (fun σ12 mσ12 cσ12 (pσ12_0 : (gi σ12 9 1).toInt = (gi σ0 9 1).toInt + 1) => ?_)
                have fσ12 : FX (fun id => id = 10) (fun id k => (id = 9 ∧ k = 1)) σ0 σ12 := FX_tr f0 cσ12 (fun x (h9 : x = 10) => (show x = 10 from h9)) (fun x k (h9 : (x = 9 ∧ k = 1)) => (show (x = 10) ∨ ((x = 9 ∧ k = 1)) from Or.inr (show (x = 9 ∧ k = 1) from h9)))
                have k_33 : (gi σ12 1 1).toInt = (gi σ0 1 1).toInt := congrArg Int32.toInt (FX_i cσ12 (show ¬ (1 = 10) from by omega) (show ¬ ((1 = 9 ∧ 1 = 1)) from by omega))
                have t_34 := XI_c1 mσ12 (id := 9) (k := 1) (lim_C8_1 (Or.inl rfl))
                refine k_X5_comes (isN_C8 (Or.inl rfl)) mσ12  (by omega) (by first | exact okNum_b (by omega) (by omega) | exact okNum_9 (by omega)) (fun σ13 mσ13 cσ13 (pσ13_0 : (gi σ13 9 1).toInt = (gi σ12 9 1).toInt + 1) => ?_)
                have fσ13 : FX (fun id => id = 10) (fun id k => (id = 9 ∧ k = 1)) σ0 σ13 := FX_tr fσ12 cσ13 (fun x (h9 : x = 10) => (show x = 10 from h9)) (fun x k (h9 : (x = 9 ∧ k = 1)) => (show (x = 10) ∨ ((x = 9 ∧ k = 1)) from Or.inr (show (x = 9 ∧ k = 1) from h9)))
                have k_35 : (gi σ13 1 1).toInt = (gi σ12 1 1).toInt := congrArg Int32.toInt (FX_i cσ13 (show ¬ (1 = 10) from by omega) (show ¬ ((1 = 9 ∧ 1 = 1)) from by omega))
                have t_36 := XI_c1 mσ13 (id := 9) (k := 1) (lim_C8_1 (Or.inl rfl))
                refine k_X5_comes (isN_C8 (Or.inl rfl)) mσ13  (by omega) (by first | exact okNum_b (by omega) (by omega) | exact okNum_9 (by omega)) (fun σ14 mσ14 cσ14 (pσ14_0 : (gi σ14 9 1).toInt = (gi σ13 9 1).toInt + 1) => ?_)
                have fσ14 : FX (fun id => id = 10) (fun id k => (id = 9 ∧ k = 1)) σ0 σ14 := FX_tr fσ13 cσ14 (fun x (h9 : x = 10) => (show x = 10 from h9)) (fun x k (h9 : (x = 9 ∧ k = 1)) => (show (x = 10) ∨ ((x = 9 ∧ k = 1)) from Or.inr (show (x = 9 ∧ k = 1) from h9)))
                have k_37 : (gi σ14 1 1).toInt = (gi σ13 1 1).toInt := congrArg Int32.toInt (FX_i cσ14 (show ¬ (1 = 10) from by omega) (show ¬ ((1 = 9 ∧ 1 = 1)) from by omega))
                have t_38 := XI_c1 mσ14 (id := 9) (k := 1) (lim_C8_1 (Or.inl rfl))
                have t_39 : ((gi σ14 9 1) / (3 : Int32)).toInt = (gi σ14 9 1).toInt / 3 := i_div (by omega) (by decide +kernel) rfl
                exact h9ret ((gi σ14 9 1) / (3 : Int32)) σ14 mσ14 fσ14 (by first | with_reducible assumption | with_reducible rfl | omega | assumption | rfl) (by unfold SEA; omega)
              · intro q_31
                have b_40 : ¬ r10.toInt = 0 := fun h9 => q_31 (Int32.toInt_inj.mp h9)
                have z_41 : (-4 : Int32).toInt = -4 := rfl
                exact h9ret (-4 : Int32) σ0 m0 f0 (by first | with_reducible assumption | with_reducible rfl | omega | assumption | rfl) (by unfold SEA; omega)
            · intro q_29
              have b_42 : ¬ a3.toInt ≤ 9999 := fun h9 => q_29 (Int32.le_iff_toInt_le.mpr h9)
              have z_43 : (-2 : Int32).toInt = -2 := rfl
              exact h9ret (-2 : Int32) σ0 m0 f0 (by first | with_reducible assumption | with_reducible rfl | omega | assumption | rfl) (by unfold SEA; omega)
    · intro q_7
      have b_44 : r3.toInt = 0 := congrArg Int32.toInt q_7
      have z_45 : (-1 : Int32).toInt = -1 := rfl
      exact h9ret (-1 : Int32) σ0 m0 f0 (by first | with_reducible assumption | with_reducible rfl | omega | assumption | rfl) (by unfold SEA; omega)
  · intro q_3
    have w_46 := Int32.toInt_lt a1
    have w_47 := Int32.le_toInt a1
    have b_48 : a1.toInt = (-1) := congrArg Int32.toInt q_3
    intro σ15 eσ15
    have z_49 : (0 : Int32).toInt = 0 := rfl
    have mσ15 : XI (mV M) σ15 := by rw [eσ15]; exact XIs_b m0 (lim_C8_1 (Or.inl rfl)) (by omega) (by omega)
    have fσ15 : FX (fun id => id = 10) (fun id k => (id = 9 ∧ k = 1)) σ0 σ15 := by rw [eσ15]; exact FX_si f0 (Or.inr (show (9 = 9 ∧ 1 = 1) from ⟨rfl, rfl⟩))
    have k_50 : (gi σ15 1 1).toInt = (gi σ0 1 1).toInt := by rw [eσ15]; exact congrArg Int32.toInt (gi_si_ne (Or.inl (by omega)))
    have k_51 : (gi σ15 9 1).toInt = 0 := by rw [eσ15]; exact congrArg Int32.toInt gi_si_eq
    exact h9ret (0 : Int32) σ15 mσ15 fσ15 (by first | with_reducible assumption | with_reducible rfl | omega | assumption | rfl) (by unfold SEA; omega)
set_option maxRecDepth 100000 in
set_option maxHeartbeats 4000000 in
theorem kt_X12_minute {l : Launch} {V : Vx} {σ0 : Sg} {Qk : Int32 → Sg → Prop} (m0 : MI σ0) (pre0 : (gi σ0 74 1).toInt ≤ 9999) (h9ret : ∀ (r : Int32) (σ' : Sg), MI σ' → Fr [74, 105, 106, 107, 108, 129, 131, 132] [1, 30] σ0 σ' → ((gi σ' 74 1).toInt ≤ 9999) → (MNA (gi σ0 74 1) (gi σ' 74 1)) → Qk r σ') : K_X12_minute l V σ0 Qk := by
  refine e_X12_minute (fun M hl hV hN C => ?_)
  subst hl
  subst hV
  have f0 : Fr [74, 105, 106, 107, 108, 129, 131, 132] [1, 30] σ0 σ0 := Fr_rf
  refine s_X12_minute_0 C hN ?_
  refine ⟨?_, ?_⟩
  · intro q_1
    have t_2 := MI_f1 m0
    have b_3 : ¬ (gi σ0 74 1).toInt = 9999 := fun h9 => q_1 (Int32.toInt_inj.mp h9)
    refine k_X12_goMinute m0 (by first | with_reducible assumption | with_reducible rfl | omega | assumption | rfl) (fun r3 σ2 mσ2 cσ2 (pσ2_0 : (gi σ2 74 1).toInt = (gi σ0 74 1).toInt + 1) => ?_)
    have fσ2 : Fr [74, 105, 106, 107, 108, 129, 131, 132] [1, 30] σ0 σ2 := Fr_tr f0 cσ2 (by decide +kernel) (by decide +kernel)
    exact h9ret r3 σ2 mσ2 fσ2 (by first | with_reducible assumption | with_reducible rfl | omega | assumption | rfl) (by unfold MNA; omega)
  · intro q_1
    have t_4 := MI_f1 m0
    have b_5 : (gi σ0 74 1).toInt = 9999 := congrArg Int32.toInt q_1
    have z_6 : (-3 : Int32).toInt = -3 := rfl
    exact h9ret (-3 : Int32) σ0 m0 f0 (by first | with_reducible assumption | with_reducible rfl | omega | assumption | rfl) (by unfold MNA; omega)
set_option maxRecDepth 100000 in
set_option maxHeartbeats 4000000 in
theorem kt_X12_whet {l : Launch} {V : Vx} {σ0 : Sg} {Qk : Int32 → Sg → Prop} (m0 : MI σ0) (pre0 : (gi σ0 74 1).toInt ≤ 9999) (h9ret : ∀ (r : Int32) (σ' : Sg), MI σ' → Fr [74, 106, 107, 108] [1] σ0 σ' → ((gi σ' 74 1).toInt ≤ 9999) → (WHA r (gi σ0 74 1) (gi σ' 74 1)) → Qk r σ') : K_X12_whet l V σ0 Qk := by
  refine e_X12_whet (fun M hl hV hN C => ?_)
  subst hl
  subst hV
  have f0 : Fr [74, 106, 107, 108] [1] σ0 σ0 := Fr_rf
  refine s_X12_whet_0 C hN ?_
  refine ⟨?_, ?_⟩
  · intro q_1
    have t_2 := MI_f1 m0
    have b_3 : ¬ (gi σ0 74 1).toInt = 9999 := fun h9 => q_1 (Int32.toInt_inj.mp h9)
    refine k_X12_goWhet m0 (by first | with_reducible assumption | with_reducible rfl | omega | assumption | rfl) (fun σ2 mσ2 cσ2 (pσ2_0 : (gi σ2 74 1).toInt = (gi σ0 74 1).toInt + 1) => ?_)
    have fσ2 : Fr [74, 106, 107, 108] [1] σ0 σ2 := Fr_tr f0 cσ2 (by decide +kernel) (by decide +kernel)
    have t_4 := MI_f1 mσ2
    exact h9ret (gi σ2 74 1) σ2 mσ2 fσ2 (by first | with_reducible assumption | with_reducible rfl | omega | assumption | rfl) (by unfold WHA; omega)
  · intro q_1
    have t_5 := MI_f1 m0
    have b_6 : (gi σ0 74 1).toInt = 9999 := congrArg Int32.toInt q_1
    have z_7 : (-3 : Int32).toInt = -3 := rfl
    exact h9ret (-3 : Int32) σ0 m0 f0 (by first | with_reducible assumption | with_reducible rfl | omega | assumption | rfl) (by unfold WHA; omega)
set_option maxRecDepth 100000 in
set_option maxHeartbeats 4000000 in
theorem kt_X12_pause {l : Launch} {V : Vx} {a1 : Int32} {σ0 : Sg} {Qk : Int32 → Sg → Prop} (m0 : MI σ0) (pre0 : (gi σ0 74 1).toInt ≤ 9999) (h9ret : ∀ (r : Int32) (σ' : Sg), MI σ' → Fr [74, 107, 108] [1] σ0 σ' → ((gi σ' 74 1).toInt ≤ 9999) → (PAA r a1 (gi σ0 74 1) (gi σ' 74 1)) → Qk r σ') : K_X12_pause l V a1 σ0 Qk := by
  refine e_X12_pause (fun M hl hV hN C => ?_)
  subst hl
  subst hV
  have f0 : Fr [74, 107, 108] [1] σ0 σ0 := Fr_rf
  refine s_X12_pause_0 C hN ?_
  refine k_X12_in m0  (fun r2 σ1 mσ1 cσ1 plσ1 phσ1 (pσ1_0 : (r2.toInt = 1 ∧ (1 : Int) ≤ a1.toInt ∧ a1.toInt ≤ (60 : Int)) ∨ (r2.toInt = 0 ∧ (a1.toInt < (1 : Int) ∨ (60 : Int) < a1.toInt))) => ?_)
  obtain rfl := Fr_nil cσ1
  refine ⟨?_, ?_⟩
  · intro q_1
    have b_2 : ¬ r2.toInt = 0 := fun h9 => q_1 (Int32.toInt_inj.mp h9)
    refine ⟨?_, ?_⟩
    · intro q_3
      have t_4 := MI_f1 m0
      have w_5 := Int32.toInt_lt a1
      have w_6 := Int32.le_toInt a1
      try have t_7 : ((gi σ0 74 1) + a1).toInt = (gi σ0 74 1).toInt + a1.toInt := i_add (x := (gi σ0 74 1)) (y := a1) (by show (_ : Int) ≤ (gi σ0 74 1).toInt + a1.toInt; omega) (by show (gi σ0 74 1).toInt + a1.toInt ≤ (_ : Int); omega)
      have b_8 : ((gi σ0 74 1) + a1).toInt ≤ 9999 := Int32.le_iff_toInt_le.mp q_3
      refine k_X12_goPause m0 (by omega) (by omega) (by first | with_reducible assumption | with_reducible rfl | omega | assumption | rfl) (fun σ5 mσ5 cσ5 (pσ5_0 : (gi σ5 74 1).toInt = (gi σ0 74 1).toInt + a1.toInt) => ?_)
      have fσ5 : Fr [74, 107, 108] [1] σ0 σ5 := Fr_tr f0 cσ5 (by decide +kernel) (by decide +kernel)
      have t_9 := MI_f1 mσ5
      exact h9ret (gi σ5 74 1) σ5 mσ5 fσ5 (by first | with_reducible assumption | with_reducible rfl | omega | assumption | rfl) (by unfold PAA; omega)
    · intro q_3
      have t_10 := MI_f1 m0
      have w_11 := Int32.toInt_lt a1
      have w_12 := Int32.le_toInt a1
      try have t_13 : ((gi σ0 74 1) + a1).toInt = (gi σ0 74 1).toInt + a1.toInt := i_add (x := (gi σ0 74 1)) (y := a1) (by show (_ : Int) ≤ (gi σ0 74 1).toInt + a1.toInt; omega) (by show (gi σ0 74 1).toInt + a1.toInt ≤ (_ : Int); omega)
      have b_14 : ¬ ((gi σ0 74 1) + a1).toInt ≤ 9999 := fun h9 => q_3 (Int32.le_iff_toInt_le.mpr h9)
      have z_15 : (-3 : Int32).toInt = -3 := rfl
      exact h9ret (-3 : Int32) σ0 m0 f0 (by first | with_reducible assumption | with_reducible rfl | omega | assumption | rfl) (by unfold PAA; omega)
  · intro q_1
    have b_16 : r2.toInt = 0 := congrArg Int32.toInt q_1
    have z_17 : (-2 : Int32).toInt = -2 := rfl
    exact h9ret (-2 : Int32) σ0 m0 f0 (by first | with_reducible assumption | with_reducible rfl | omega | assumption | rfl) (by unfold PAA; omega)
set_option maxRecDepth 100000 in
set_option maxHeartbeats 4000000 in
theorem kt_X12_see {l : Launch} {V : Vx} {a1 : Int32} {a2 : Int32} {a3 : Int32} {σ0 : Sg} {Qk : Int32 → Sg → Prop} (m0 : MI σ0) (h9ret : ∀ (r : Int32) (σ' : Sg), MI σ' → Fr [74, 142, 143, 144] [41] σ0 σ' → (SEA r a1 a2 a3 (gi σ0 74 0).toInt (gi σ0 74 41).toInt (gi σ' 74 41).toInt) → Qk r σ') : K_X12_see l V a1 a2 a3 σ0 Qk := by
  refine e_X12_see (fun M hl hV hN C => ?_)
  subst hl
  subst hV
  have f0 : Fr [74, 142, 143, 144] [41] σ0 σ0 := Fr_rf
  refine s_X12_see_0 C hN ?_
  refine ⟨?_, ?_⟩
  · intro q_1
    have w_2 := Int32.toInt_lt a1
    have w_3 := Int32.le_toInt a1
    have b_4 : ¬ a1.toInt = (-1) := fun h9 => q_1 (Int32.toInt_inj.mp h9)
    refine k_X12_isMower m0  (fun r3 σ2 mσ2 cσ2 plσ2 phσ2 (pσ2_0 : (r3.toInt = 1 ∧ 0 ≤ a1.toInt ∧ a1.toInt < (gi σ0 74 0).toInt) ∨ (r3.toInt = 0 ∧ (a1.toInt < 0 ∨ (gi σ0 74 0).toInt ≤ a1.toInt))) => ?_)
    obtain rfl := Fr_nil cσ2
    have t_5 := MI_f0 m0
    refine ⟨?_, ?_⟩
    · intro q_6
      have b_7 : ¬ r3.toInt = 0 := fun h9 => q_6 (Int32.toInt_inj.mp h9)
      refine k_X12_in m0  (fun r6 σ5 mσ5 cσ5 plσ5 phσ5 (pσ5_0 : (r6.toInt = 1 ∧ (0 : Int) ≤ a2.toInt ∧ a2.toInt ≤ (30 : Int)) ∨ (r6.toInt = 0 ∧ (a2.toInt < (0 : Int) ∨ (30 : Int) < a2.toInt))) => ?_)
      obtain rfl := Fr_nil cσ5
      refine ⟨?_, ?_⟩
      · intro q_8
        have b_9 : r6.toInt = 0 := congrArg Int32.toInt q_8
        have z_10 : (-2 : Int32).toInt = -2 := rfl
        exact h9ret (-2 : Int32) σ0 m0 f0 (by unfold SEA; omega)
      · intro q_8
        have b_11 : ¬ r6.toInt = 0 := fun h9 => q_8 (Int32.toInt_inj.mp h9)
        refine k_X12_in m0  (fun r9 σ8 mσ8 cσ8 plσ8 phσ8 (pσ8_0 : (r9.toInt = 1 ∧ (0 : Int) ≤ a3.toInt ∧ a3.toInt ≤ (9999 : Int)) ∨ (r9.toInt = 0 ∧ (a3.toInt < (0 : Int) ∨ (9999 : Int) < a3.toInt))) => ?_)
        obtain rfl := Fr_nil cσ8
        refine ⟨?_, ?_⟩
        · intro q_12
          have b_13 : ¬ r9.toInt = 0 := fun h9 => q_12 (Int32.toInt_inj.mp h9)
          refine ⟨?_, ?_⟩
          · intro q_14
            have t_15 := MI_f41 m0
            have b_16 : ¬ (gi σ0 74 41).toInt = 6 := fun h9 => q_14 (Int32.toInt_inj.mp h9)
            have hv_17 : vp_in (gi σ0 74 41) 6 := vp_in_iff.mpr ⟨by omega, by omega⟩
            refine ⟨hv_17, ?_⟩
            intro σ13 eσ13
            have mσ13 : MI σ13 := by rw [eσ13]; exact MIs_a142 m0 (by omega) (by omega)
            have fσ13 : Fr [74, 142, 143, 144] [41] σ0 σ13 := by rw [eσ13]; exact Fr_si f0 (by decide +kernel) (fun h9 => absurd h9 (by decide +kernel))
            have k_18 : (gi σ13 74 0).toInt = (gi σ0 74 0).toInt := gk_l eσ13 rfl
            have k_19 : (gi σ13 74 41).toInt = (gi σ0 74 41).toInt := gk_l eσ13 rfl
            have t_20 := MI_f41 mσ13
            have hv_21 : vp_in (gi σ13 74 41) 6 := vp_in_iff.mpr ⟨by omega, by omega⟩
            refine ⟨hv_21, ?_⟩
            intro σ15 eσ15
            have w_22 := Int32.toInt_lt a2
            have w_23 := Int32.le_toInt a2
            have mσ15 : MI σ15 := by rw [eσ15]; exact MIs_a143 mσ13 (by omega) (by omega)
            have fσ15 : Fr [74, 142, 143, 144] [41] σ0 σ15 := by rw [eσ15]; exact Fr_si fσ13 (by decide +kernel) (fun h9 => absurd h9 (by decide +kernel))
            have k_24 : (gi σ15 74 0).toInt = (gi σ13 74 0).toInt := gk_l eσ15 rfl
            have k_25 : (gi σ15 74 41).toInt = (gi σ13 74 41).toInt := gk_l eσ15 rfl
            have t_26 := MI_f41 mσ15
            have hv_27 : vp_in (gi σ15 74 41) 6 := vp_in_iff.mpr ⟨by omega, by omega⟩
            refine ⟨hv_27, ?_⟩
            intro σ17 eσ17
            have mσ17 : MI σ17 := by rw [eσ17]; exact MIs_au (a := 144) mσ15 rfl rfl
            have fσ17 : Fr [74, 142, 143, 144] [41] σ0 σ17 := by rw [eσ17]; exact Fr_si fσ15 (by decide +kernel) (fun h9 => absurd h9 (by decide +kernel))
            have k_28 : (gi σ17 74 0).toInt = (gi σ15 74 0).toInt := gk_l eσ17 rfl
            have k_29 : (gi σ17 74 41).toInt = (gi σ15 74 41).toInt := gk_l eσ17 rfl
            intro σ18 eσ18
            have t_30 := MI_f41 mσ17
            have t_31 : ((gi σ17 74 41) + (1 : Int32)).toInt = (gi σ17 74 41).toInt + 1 := i_add (x := (gi σ17 74 41)) (y := (1 : Int32)) (by show (_ : Int) ≤ (gi σ17 74 41).toInt + 1; omega) (by show (gi σ17 74 41).toInt + 1 ≤ (_ : Int); omega)
            have mσ18 : MI σ18 := by rw [eσ18]; exact MIs_f41 mσ17 (by omega) (by omega)
            have fσ18 : Fr [74, 142, 143, 144] [41] σ0 σ18 := by rw [eσ18]; exact Fr_si fσ17 (by decide +kernel) (fun _ => by decide +kernel)
            have k_32 : (gi σ18 74 0).toInt = (gi σ17 74 0).toInt := gk_r eσ18 rfl
            have k_33 : (gi σ18 74 41).toInt = ((gi σ17 74 41) + (1 : Int32)).toInt := by rw [eσ18]; exact congrArg Int32.toInt gi_si_eq
            have t_34 := MI_f41 mσ18
            exact h9ret (gi σ18 74 41) σ18 mσ18 fσ18 (by unfold SEA; omega)
          · intro q_14
            have t_35 := MI_f41 m0
            have b_36 : (gi σ0 74 41).toInt = 6 := congrArg Int32.toInt q_14
            have z_37 : (-4 : Int32).toInt = -4 := rfl
            exact h9ret (-4 : Int32) σ0 m0 f0 (by unfold SEA; omega)
        · intro q_12
          have b_38 : r9.toInt = 0 := congrArg Int32.toInt q_12
          have z_39 : (-2 : Int32).toInt = -2 := rfl
          exact h9ret (-2 : Int32) σ0 m0 f0 (by unfold SEA; omega)
    · intro q_6
      have b_40 : r3.toInt = 0 := congrArg Int32.toInt q_6
      have z_41 : (-1 : Int32).toInt = -1 := rfl
      exact h9ret (-1 : Int32) σ0 m0 f0 (by unfold SEA; omega)
  · intro q_1
    have w_42 := Int32.toInt_lt a1
    have w_43 := Int32.le_toInt a1
    have b_44 : a1.toInt = (-1) := congrArg Int32.toInt q_1
    intro σ19 eσ19
    have z_45 : (0 : Int32).toInt = 0 := rfl
    have mσ19 : MI σ19 := by rw [eσ19]; exact MIs_f41 m0 (by omega) (by omega)
    have fσ19 : Fr [74, 142, 143, 144] [41] σ0 σ19 := by rw [eσ19]; exact Fr_si f0 (by decide +kernel) (fun _ => by decide +kernel)
    have k_46 : (gi σ19 74 0).toInt = (gi σ0 74 0).toInt := gk_r eσ19 rfl
    have k_47 : (gi σ19 74 41).toInt = 0 := by rw [eσ19]; exact congrArg Int32.toInt gi_si_eq
    exact h9ret (0 : Int32) σ19 mσ19 fσ19 (by unfold SEA; omega)
