/-! the state with more cells -/
noncomputable def vext (V : Vx) (L : List (Nat × Nat)) : Vx := (vD V, vC V, vA V, (fun id => match L.find? (fun x => x.1 == id) with
  | some x => x.2
  | none => va V id), vL V ++ L.map (fun x => x.1), vX V)
theorem vext_ids {V : Vx} {L : List (Nat × Nat)} : ids (vext V L) = ids V ++ L.map (fun x => x.1) := (List.append_assoc _ _ _).symm
theorem vext_old {V : Vx} {L : List (Nat × Nat)} {id : Nat} (h : id ∉ L.map (fun x => x.1)) : va (vext V L) id = va V id := by
  show (match L.find? (fun x => x.1 == id) with
    | some x => x.2
    | none => va V id) = _
  cases hf : L.find? (fun x => x.1 == id) with
  | none => rfl
  | some x =>
    have h1 := List.find?_some hf
    have h2 := List.mem_of_find?_eq_some hf
    have h3 : x.1 = id := by simpa using h1
    exact absurd (List.mem_map.mpr ⟨x, h2, h3⟩) h
theorem vext_new {V : Vx} {L : List (Nat × Nat)} {x : Nat × Nat} (hn : (L.map (fun x => x.1)).Nodup) (h : x ∈ L) : va (vext V L) x.1 = x.2 := by
  show (match L.find? (fun y => y.1 == x.1) with
    | some y => y.2
    | none => va V x.1) = _
  cases hf : L.find? (fun y => y.1 == x.1) with
  | none => exact absurd (List.find?_eq_none.mp hf x h) (by simp)
  | some y =>
    have h1 := List.find?_some hf
    have h2 := List.mem_of_find?_eq_some hf
    have h3 : y.1 = x.1 := by simpa using h1
    obtain ⟨i, hi⟩ := List.getElem?_of_mem h
    obtain ⟨j, hj⟩ := List.getElem?_of_mem h2
    have g1 : (L.map (fun x => x.1))[i]? = some x.1 := by rw [List.getElem?_map, hi]; rfl
    have g2 : (L.map (fun x => x.1))[j]? = some x.1 := by rw [List.getElem?_map, hj, ← h3]; rfl
    obtain ⟨l1, q1⟩ := List.getElem?_eq_some_iff.mp g1
    obtain ⟨l2, q2⟩ := List.getElem?_eq_some_iff.mp g2
    have h5 := List.pairwise_iff_getElem.mp hn
    have e : i = j := by
      rcases Nat.lt_trichotomy i j with q | q | q
      · exact absurd (q1.trans q2.symm) (h5 i j l1 l2 q)
      · exact q
      · exact absurd (q2.trans q1.symm) (h5 j i l2 l1 q)
    subst e
    rw [Option.some.inj (hi.symm.trans hj)]
theorem va_D_nd {A : Nat → Prop} {ws : va_W} (h : va_D A ws) : (ws.map (fun x => x.1)).Nodup := by
  refine List.pairwise_iff_getElem.mpr (fun i j hi hj hij e => ?_)
  rw [List.getElem_map, List.getElem_map] at e
  rw [List.length_map] at hi hj
  have := h.1 i j _ _ (List.getElem?_eq_getElem hi) (List.getElem?_eq_getElem hj) e
  omega
theorem va_D_of {A : Nat → Prop} {ws : va_W} (hn : (ws.map (fun x => x.1)).Nodup) (hA : ∀ x ∈ ws, A x.1) : va_D A ws := by
  refine ⟨fun i j p q hi hj e => ?_, fun k q hk => hA q (List.mem_of_getElem? hk)⟩
  obtain ⟨p1, p2⟩ := p
  obtain ⟨q1, q2⟩ := q
  have e : p1 = q1 := e
  subst e
  exact nodup_at hn hi hj
/-- what lies in a cell is as good as something else -/
noncomputable def EQV (e e' : va_E) : Prop := ∀ (D : va_G) (a : Nat) (H : Heap), va_at D vwCl (a, e) H → va_at D vwCl (a, e') H
theorem EQV_rf {e : va_E} : EQV e e := fun _ _ _ h => h
theorem EQV_of {e e' : va_E} (h : e = e') : EQV e e' := h ▸ EQV_rf
theorem EQV_refs {cA : ClassId} {n : Nat} {f g : Nat → Option Nat} (h : ∀ k, k < n → f k = g k) : EQV (.inl (cA, n, .inr (.inr (.inr (.inr f))))) (.inl (cA, n, .inr (.inr (.inr (.inr g))))) := fun D a H q => by
  show H[a]? = some (arrV cA n (fun j => va_rf (g j)))
  have e : arrV cA n (fun j => va_rf (g j)) = arrV cA n (fun j => va_rf (f j)) := by
    unfold arrV
    congr 2
    funext j
    show va_rf (g j.val) = va_rf (f j.val)
    rw [h j.val j.isLt]
  rw [e]
  exact q
theorem kd_cls (id : Nat) : id ∈ fixL ∨ (kd id = (12, 0) ∧ 1000 ≤ id) ∨ ((kd id).1 = 0 ∧ 1000 ≤ id) ∨ (∃ ci, ci ∈ mcs ∧ kd id = (10 + ci, 0)) ∨ kd id = (99, 0) := by
  by_cases h1 : id < 175
  · have h : ∀ i, i < 175 → i ∈ fixL ∨ kd i = (99, 0) := by decide +kernel
    rcases h id h1 with q | q
    · exact Or.inl q
    · exact Or.inr (Or.inr (Or.inr (Or.inr q)))
  · by_cases h2 : id < 1000
    · exact Or.inr (Or.inr (Or.inr (Or.inr (by simp [kd, h1, h2]))))
    · by_cases h3 : id < 2000
      · have e : kd id = fkd ((id - 1000) % 5) := by simp [kd, h1, h2, h3]
        rw [e]
        unfold fkd
        split
        · exact Or.inr (Or.inl ⟨rfl, by omega⟩)
        · split
          · exact Or.inr (Or.inr (Or.inl ⟨rfl, by omega⟩))
          · exact Or.inr (Or.inr (Or.inl ⟨rfl, by omega⟩))
      · have e : kd id = if mcs.contains (id % 16) then (10 + id % 16, 0) else (99, 0) := by simp only [kd, h1, h2, h3, if_false]
        by_cases h4 : mcs.contains (id % 16) = true
        · exact Or.inr (Or.inr (Or.inr (Or.inl ⟨id % 16, List.contains_iff_mem.mp h4, by rw [e, if_pos h4]⟩)))
        · exact Or.inr (Or.inr (Or.inr (Or.inr (by rw [e, if_neg h4]))))
theorem fix_o : ∀ id ∈ fixL, ∀ c ∈ tplT.getD ((kd id).1 - 10) [], 2 ≤ c → 10 ≤ (kd id).1 → id + (c - 2) ∈ fixL := by decide +kernel
theorem fix_4 : ∀ id ∈ fixL, (kd id).1 = 4 → isC (id - 1) ∧ 1 ≤ id := by decide +kernel
theorem fix_5 : ∀ id ∈ fixL, (kd id).1 = 5 → id = 49 := by decide +kernel
theorem fix_6 : ∀ id ∈ fixL, (kd id).1 = 6 → id = 51 ∧ (kd id).2 = 6 := by decide +kernel
theorem fix_11 : ∀ id ∈ fixL, (kd id).1 = 11 → isC id := by decide +kernel
theorem fix_12 : ∀ id ∈ fixL, (kd id).1 = 12 → id = 69 ∧ kd id = (12, 0) := by decide +kernel
theorem tp_1 : ∀ ci, ci < 13 → ∀ k, k < 80 → tp ci k = some 1 → (ci = 1 ∧ k = 10) ∨ (ci = 2 ∧ k = 9) := by decide +kernel
theorem tp_m : ∀ ci ∈ mcs, ∀ c ∈ tplT.getD ci [], c = 0 := by decide +kernel
theorem tp_f : ∀ c ∈ tplT.getD 2 [], 2 ≤ c → c = 3 ∨ c = 4 ∨ c = 5 ∨ c = 6 := by decide +kernel
theorem tp_len : ∀ ci, ci < 13 → (tplT.getD ci []).length < 80 := by decide +kernel
theorem fix_o13 : ∀ id ∈ fixL, 10 ≤ (kd id).1 → (kd id).1 - 10 < 13 := by decide +kernel
theorem mcs13 : ∀ ci ∈ mcs, ci < 13 := by decide +kernel
/-- the references of a cell that lives go to cells that live -/
theorem ref_in {V : Vx} {σ : Sg} (x : XI V σ) {id k μ : Nat} (hi : id ∈ ids V) (h : ((kd id).1 = 4 ∨ (kd id).1 = 5) ∨ (10 ≤ (kd id).1 ∧ tp ((kd id).1 - 10) k = some 1)) (hr : gr σ id k = some μ) : μ ∈ ids V := by
  have c4 : ∀ c, isC c → gr σ (c + 1) k = some μ → μ ∈ ids V := fun c hc hr => by
    obtain ⟨ci, -, -, q⟩ := (x.2.1 c hc).2 k μ hr
    exact q
  have cF : kd id = (12, 0) → k = 9 → μ ∈ ids V := fun hk h9 => by
    subst h9
    rcases x.2.2.2 id hk with q | q
    · rw [q] at hr; cases hr
    · rw [q] at hr
      obtain rfl : 50 = μ := Option.some.inj hr
      exact fxl (by decide +kernel)
  rcases kd_cls id with q | q | q | ⟨ci, q1, q2⟩ | q
  · rcases h with (h | h) | ⟨h1, h2⟩
    · obtain ⟨q1, q2⟩ := fix_4 id q h
      exact c4 (id - 1) q1 (by rw [show id - 1 + 1 = id from by omega]; exact hr)
    · rw [fix_5 id q h] at hr
      exact (x.2.2.1 k μ hr).2
    · have hk : k < (tplT.getD ((kd id).1 - 10) []).length := by
        unfold tp at h2
        exact (List.getElem?_eq_some_iff.mp h2).1
      have h13 := fix_o13 id q h1
      have hl := tp_len _ h13
      rcases tp_1 _ h13 k (by omega) h2 with ⟨e1, e2⟩ | ⟨e1, e2⟩
      · have hc := fix_11 id q (by omega)
        subst e2
        obtain ⟨f, f1, -, f3⟩ := (x.2.1 id hc).1
        rw [f1] at hr
        obtain rfl : f = μ := Option.some.inj hr
        exact f3
      · exact cF (fix_12 id q (by omega)).2 e2
  · rcases h with (h | h) | ⟨h1, h2⟩
    · rw [q.1] at h; cases h
    · rw [q.1] at h; cases h
    · rw [q.1] at h2
      have hk : k < (tplT.getD 2 []).length := by
        unfold tp at h2
        exact (List.getElem?_eq_some_iff.mp h2).1
      have hl := tp_len 2 (by decide)
      rcases tp_1 2 (by decide) k (by omega) h2 with ⟨e1, e2⟩ | ⟨e1, e2⟩
      · cases e1
      · exact cF q.1 e2
  · rcases h with (h | h) | ⟨h1, h2⟩ <;> omega
  · have := mcs13 ci q1
    rcases h with (h | h) | ⟨h1, h2⟩
    · rw [q2] at h; have h : 10 + ci = 4 := h; omega
    · rw [q2] at h; have h : 10 + ci = 5 := h; omega
    · rw [q2] at h2
      have h2 : tp (10 + ci - 10) k = some 1 := h2
      rw [show 10 + ci - 10 = ci from by omega] at h2
      unfold tp at h2
      have := tp_m ci q1 1 (List.mem_of_getElem? h2)
      omega
  · rw [q] at h
    rcases h with (h | h) | ⟨h1, h2⟩
    · cases h
    · cases h
    · cases h2
/-- the cells that belong to one that lives, live -/
theorem off_in {V : Vx} (hw : wfd V) {id k d : Nat} (hi : id ∈ ids V) (h1 : 10 ≤ (kd id).1) (h : tp ((kd id).1 - 10) k = some (d + 2)) : id + d ∈ ids V := by
  have hm : (d + 2) ∈ tplT.getD ((kd id).1 - 10) [] := by unfold tp at h; exact List.mem_of_getElem? h
  rcases kd_cls id with q | q | q | ⟨ci, q1, q2⟩ | q
  · have := fix_o id q (d + 2) hm (by omega) h1
    rw [show d + 2 - 2 = d from by omega] at this
    exact fxl this
  · rw [q.1] at hm
    obtain ⟨w1, w2, w3, w4⟩ := hw id hi q.1
    rcases tp_f (d + 2) hm (by omega) with e | e | e | e
    · obtain rfl : d = 1 := by omega
      exact w1
    · obtain rfl : d = 2 := by omega
      exact w2
    · obtain rfl : d = 3 := by omega
      exact w3
    · obtain rfl : d = 4 := by omega
      exact w4
  · omega
  · rw [q2] at hm
    have hm : (d + 2) ∈ tplT.getD (10 + ci - 10) [] := hm
    rw [show 10 + ci - 10 = ci from by omega] at hm
    have := tp_m ci q1 _ hm
    omega
  · rw [q] at hm; cases hm
theorem ct_ext {V V' : Vx} {σ σ' : Sg} (x : XI V σ) (hw : wfd V) (hC : vC V' = vC V) (hva : ∀ id ∈ ids V, va V' id = va V id) {id : Nat} (hi : id ∈ ids V) (e1 : σ'.1 id = σ.1 id) (e2 : σ'.2.1 id = σ.2.1 id) (e3 : σ'.2.2 id = σ.2.2 id) : EQV (ct V σ id) (ct V' σ' id) := by
  have hr : ∀ k, ((kd id).1 = 4 ∨ (kd id).1 = 5) ∨ (10 ≤ (kd id).1 ∧ tp ((kd id).1 - 10) k = some 1) → (σ.2.2 id k).map (va V) = (σ.2.2 id k).map (va V') := fun k hk => by
    cases hq : σ.2.2 id k with
    | none => rfl
    | some μ => show some (va V μ) = some (va V' μ); rw [hva μ (ref_in x hi hk hq)]
  unfold ct
  rw [e1, e2, e3]
  unfold cont
  rw [hC]
  by_cases h3 : (kd id).1 < 3
  · rw [if_pos h3, if_pos h3]; exact EQV_rf
  · rw [if_neg h3, if_neg h3]
    by_cases h4 : (kd id).1 = 3
    · rw [if_pos h4, if_pos h4]; exact EQV_rf
    · rw [if_neg h4, if_neg h4]
      by_cases h5 : (kd id).1 < 6
      · rw [if_pos h5, if_pos h5]
        exact EQV_refs (fun k _ => hr k (Or.inl (by omega)))
      · rw [if_neg h5, if_neg h5]
        by_cases h6 : (kd id).1 = 6
        · rw [if_pos h6, if_pos h6]
          refine EQV_refs (fun k hk => ?_)
          have hid : id = 51 ∧ (kd id).2 = 6 := by
            rcases kd_cls id with q | q | q | ⟨ci, q1, q2⟩ | q
            · exact fix_6 id q h6
            · rw [q.1] at h6; cases h6
            · omega
            · rw [q2] at h6; have h6 : 10 + ci = 6 := h6; omega
            · rw [q] at h6; cases h6
          rw [hid.2] at hk
          rw [hid.1]
          have : 51 + 1 + 2 * k ∈ ids V := by
            have h : ∀ k, k < 6 → 51 + 1 + 2 * k ∈ fixL := by decide +kernel
            exact fxl (h k hk)
          rw [hva _ this]
        · rw [if_neg h6, if_neg h6]
          by_cases h10 : 10 ≤ (kd id).1
          · refine EQV_of (congrArg (fun z => Sum.inr ((kd id).1 - 10, z)) ?_)
            apply List.ext_getElem?
            intro k
            unfold flds
            rw [List.getElem?_mapIdx, List.getElem?_mapIdx]
            cases hb : (tplT.getD ((kd id).1 - 10) [])[k]? with
            | none => rfl
            | some c =>
              show some (fv (va V) id (σ.1 id) (σ.2.2 id) k c) = some (fv (va V') id (σ.1 id) (σ.2.2 id) k c)
              unfold fv
              by_cases c0 : c = 0
              · rw [if_pos c0, if_pos c0]
              · rw [if_neg c0, if_neg c0]
                by_cases c1 : c = 1
                · rw [if_pos c1, if_pos c1]
                  subst c1
                  rw [hr k (Or.inr ⟨h10, hb⟩)]
                · rw [if_neg c1, if_neg c1]
                  have hc : c = (c - 2) + 2 := by omega
                  have := off_in hw hi h10 (k := k) (d := c - 2) (by rw [← hc]; exact hb)
                  rw [hva _ this]
          · exfalso
            rcases kd_cls id with q | q | q | ⟨ci, q1, q2⟩ | q
            · have h : ∀ i ∈ fixL, (kd i).1 < 7 ∨ 10 ≤ (kd i).1 := by decide +kernel
              have := h id q
              omega
            · rw [q.1] at h10; exact h10 (by decide)
            · omega
            · rw [q2] at h10; exact h10 (by show 10 ≤ 10 + ci; omega)
            · rw [q] at h10; exact h10 (by decide)
/-- cells that come to those that were -/
theorem GH_ext {V : Vx} {σ σ' : Sg} {L : List (Nat × Nat)} {ω : RWd} {H : Heap} (hD : va_D (vA V) (cells V σ)) (hG : GRH V ω H)
    (k1 : ∀ a ∈ (rwd V σ).1, a ∈ ω.1 ∧ ω.2 a = (rwd V σ).2 a)
    (k2 : ∀ x ∈ L, x.1 ∉ ids V ∧ x.2 ∈ ω.1 ∧ x.2 ∉ (rwd V σ).1 ∧ EQV (ω.2 x.2) (ct (vext V L) σ' x.1))
    (k3 : (L.map (fun x => x.1)).Nodup) (k3' : (L.map (fun x => x.2)).Nodup)
    (k4 : ∀ id ∈ ids V, EQV (ct V σ id) (ct (vext V L) σ' id)) (k5 : wfd (vext V L)) : GH (vext V L) σ' H := by
  have hold : ∀ id ∈ ids V, va (vext V L) id = va V id := fun id hi => vext_old (fun z => by
    obtain ⟨x, hx, e⟩ := List.mem_map.mp z
    have e : x.1 = id := e
    exact (k2 x hx).1 (e ▸ hi))
  have hnew : ∀ x ∈ L, va (vext V L) x.1 = x.2 := fun x hx => vext_new k3 hx
  have hat : ∀ a, a ∈ ω.1 → va_at (vD V) vwCl (a, ω.2 a) H := fun a ha => by
    obtain ⟨i, hi⟩ := rc_at ha
    exact hG.1 i _ hi
  have hA : ∀ a, a ∈ ω.1 → vA V a := fun a ha => by
    obtain ⟨i, hi⟩ := rc_at ha
    exact hG.2.2 i _ hi
  have hmem : ∀ id ∈ ids V, va V id ∈ ω.1 ∧ ω.2 (va V id) = ct V σ id := fun id hi => by
    have h := k1 (va V id) (List.mem_map.mpr ⟨id, hi, rfl⟩)
    exact ⟨h.1, h.2.trans (rwd_ct hD hi)⟩
  have hall : ∀ id ∈ ids (vext V L), va_at (vD V) vwCl (va (vext V L) id, ct (vext V L) σ' id) H ∧ vA V (va (vext V L) id) := fun id hi => by
    rw [vext_ids] at hi
    rcases List.mem_append.mp hi with hi | hi
    · rw [hold id hi]
      have h := hmem id hi
      have q := hat _ h.1
      rw [h.2] at q
      exact ⟨k4 id hi _ _ _ q, hA _ h.1⟩
    · obtain ⟨x, hx, rfl⟩ := List.mem_map.mp hi
      rw [hnew x hx]
      have h := k2 x hx
      exact ⟨h.2.2.2 _ _ _ (hat _ h.2.1), hA _ h.2.1⟩
  refine ⟨fun k q hq => ?_, va_D_of ?_ (fun q hq => ?_), k5⟩
  · obtain ⟨id, hi, rfl⟩ := List.mem_map.mp (List.mem_of_getElem? hq)
    exact (hall id hi).1
  · have e : (cells (vext V L) σ').map (fun x => x.1) = (ids V).map (va V) ++ L.map (fun x => x.2) := by
      unfold cells
      rw [List.map_map, vext_ids, List.map_append, List.map_map]
      congr 1
      · exact List.map_congr_left (fun id hi => hold id hi)
      · exact List.map_congr_left (fun x hx => hnew x hx)
    rw [e, List.nodup_append]
    refine ⟨?_, k3', fun a ha b hb z => ?_⟩
    · have h := va_D_nd hD
      unfold cells at h
      rw [List.map_map] at h
      exact h
    · obtain ⟨x, hx, rfl⟩ := List.mem_map.mp hb
      exact (k2 x hx).2.2.1 (z ▸ ha)
  · obtain ⟨id, hi, rfl⟩ := List.mem_map.mp hq
    exact (hall id hi).2
