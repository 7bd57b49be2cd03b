/-! the model lays the order of a number; from the start -/
noncomputable def pLy (c : Int32) : Nat → Nat → Int32 → Int32 → Int32 → Int32 → Int32 → Int32 → Int32 → List (Nat × Int32) → Int32 × List (Nat × Int32)
  | 0, _, _, _, _, _, _, _, _, w => (0, w)
  | N + 1, 0, x1, x2, x3, _, _, _, _, w => if c < x3 then (if x1 < x2 then pLy c N 1 0 x2 (((1 : Int32) <<< (c &&& 31)) - (1 : Int32)) x1 (0 : Int32) 0 0 w else (0, w)) else pLy c N 0 x1 (x2 * x3) (x3 + 1) 0 0 0 0 w
  | N + 1, 1, _, x2, x3, x4, x5, _, _, w => if c ≤ x5 then (1, w) else pLy c N 2 0 (x2 / (c - x5)) x3 (x4 - x4 / (x2 / (c - x5)) * (x2 / (c - x5))) x5 (x4 / (x2 / (c - x5))) (0 : Int32) w
  | N + 1, 2, _, x2, x3, x4, x5, x6, x7, w => if ((x3 >>> (x7 &&& 31)) &&& (1 : Int32)) = (1 : Int32) then (if x6 ≤ 0 then pLy c N 1 0 x2 (x3 &&& (((1 : Int32) <<< (x7 &&& 31)) ^^^ (-1 : Int32))) x4 (x5 + 1) 0 0 ((x5.toNatClampNeg, x7) :: w) else pLy c N 3 0 x2 x3 x4 x5 x6 x7 w) else pLy c N 3 0 x2 x3 x4 x5 x6 x7 w
  | N + 1, 3, _, x2, x3, x4, x5, x6, x7, w => if ((x3 >>> (x7 &&& 31)) &&& (1 : Int32)) = (1 : Int32) then pLy c N 2 0 x2 x3 x4 x5 (x6 - (1 : Int32)) (x7 + 1) w else pLy c N 2 0 x2 x3 x4 x5 (x6 - (0 : Int32)) (x7 + 1) w
  | _ + 1, _ + 4, _, _, _, _, _, _, _, w => (0, w)
noncomputable def pRow (g : Nat → Int32) : List (Nat × Int32) → Nat → Int32
  | [], j => g j
  | (k, v) :: w, j => if j = k then v else pRow g w j
noncomputable def pLk : List (Nat × Int32) → Nat → Option Int32
  | [], _ => none
  | (k, v) :: w, j => if j = k then some v else pLk w j
theorem pLk_row {g : Nat → Int32} {v : Int32} {j : Nat} : ∀ w : List (Nat × Int32), pLk w j = some v → pRow g w j = v
  | [], h => by exact absurd h (by intro z; cases z)
  | (k, x) :: w, h => by
    unfold pLk at h
    unfold pRow
    by_cases c : j = k
    · rw [if_pos c] at h ⊢; exact Option.some.inj h
    · rw [if_neg c] at h ⊢; exact pLk_row w h
noncomputable def pOk (n q : Nat) : Bool := if q < oFac n then ((pLy (nI n) 3000 0 (nI q) (1 : Int32) (2 : Int32) 0 0 0 0 []).1 == 1) && (List.range n).all (fun k => pLk (pLy (nI n) 3000 0 (nI q) (1 : Int32) (2 : Int32) 0 0 0 0 []).2 k == some (nI (oF n q k))) else (pLy (nI n) 3000 0 (nI q) (1 : Int32) (2 : Int32) 0 0 0 0 []).1 == 0
theorem pAll : ∀ n, n < 6 → ∀ q, q < 121 → pOk n q = true := by decide +kernel
noncomputable def PLs (c : Int32) (σ0 : Sg) (w : List (Nat × Int32)) (σ : Sg) : Prop := gi σ 74 0 = c ∧ (∀ j, gi σ 110 j = pRow (gi σ0 110) w j) ∧ ∀ id k, id ≠ 110 → gi σ id k = gi σ0 id k
theorem hasT {x y : Int32} {σ : Sg} (h : ((x >>> (y &&& 31)) &&& (1 : Int32)) = (1 : Int32)) : F_X12_has x y σ = (1, σ) := by unfold F_X12_has; rw [if_pos h]
theorem hasF {x y : Int32} {σ : Sg} (h : ¬ ((x >>> (y &&& 31)) &&& (1 : Int32)) = (1 : Int32)) : F_X12_has x y σ = (0, σ) := by unfold F_X12_has; rw [if_neg h]
theorem lySim {c : Int32} {σ0 : Sg} : ∀ (N b : Nat) (x1 x2 x3 x4 x5 x6 x7 : Int32) (w : List (Nat × Int32)) (σ : Sg), PLs c σ0 w σ →
    Rt (LF_X12_layOrder N b x1 x2 x3 x4 x5 x6 x7 σ) (fun r σ' => ∃ p, p = pLy c N b x1 x2 x3 x4 x5 x6 x7 w ∧ r = p.1 ∧ PLs c σ0 p.2 σ') := by
  intro N
  induction N with
  | zero => intro b x1 x2 x3 x4 x5 x6 x7 w σ h; exact ⟨_, rfl, rfl, h⟩
  | succ N ih =>
    intro b x1 x2 x3 x4 x5 x6 x7 w σ h
    have h74 := h.1
    rcases b with _ | _ | _ | _ | b
    · show Rt (LB_X12_layOrder_4 (LF_X12_layOrder N) x1 x2 x3 σ) (fun r σ' => ∃ p, p = (if c < x3 then (if x1 < x2 then pLy c N 1 0 x2 (((1 : Int32) <<< (c &&& 31)) - (1 : Int32)) x1 (0 : Int32) 0 0 w else (0, w)) else pLy c N 0 x1 (x2 * x3) (x3 + 1) 0 0 0 0 w) ∧ r = p.1 ∧ PLs c σ0 p.2 σ')
      unfold LB_X12_layOrder_4
      rw [h74]
      by_cases q : c < x3
      · refine Rt_t q ?_
        by_cases q2 : x1 < x2
        · refine Rt_t q2 (Rt_fl (fun v e => ?_))
          rw [if_pos q, if_pos q2, ← e]
          exact ih 1 0 x2 v x1 (0 : Int32) 0 0 w σ h
        · refine Rt_f q2 (Rt_p ?_)
          rw [if_pos q, if_neg q2]
          exact ⟨_, rfl, rfl, h⟩
      · refine Rt_f q (Rt_fl (fun v e => Rt_fl (fun v' e' => ?_)))
        rw [if_neg q, ← e, ← e']
        exact ih 0 x1 v v' 0 0 0 0 w σ h
    · show Rt (LB_X12_layOrder_44 (LF_X12_layOrder N) x2 x3 x4 x5 σ) (fun r σ' => ∃ p, p = (if c ≤ x5 then (1, w) else pLy c N 2 0 (x2 / (c - x5)) x3 (x4 - x4 / (x2 / (c - x5)) * (x2 / (c - x5))) x5 (x4 / (x2 / (c - x5))) (0 : Int32) w) ∧ r = p.1 ∧ PLs c σ0 p.2 σ')
      unfold LB_X12_layOrder_44
      rw [h74]
      by_cases q : c ≤ x5
      · refine Rt_t q (Rt_p ?_)
        rw [if_pos q]
        exact ⟨_, rfl, rfl, h⟩
      · refine Rt_f q (Rt_fl (fun v e => Rt_fl (fun v' e' => Rt_fl (fun v2 e2 => ?_))))
        rw [if_neg q, ← e, ← e2, ← e']
        exact ih 2 0 v x3 v2 x5 v' (0 : Int32) w σ h
    · show Rt (LB_X12_layOrder_78 (LF_X12_layOrder N) x2 x3 x4 x5 x6 x7 σ) (fun r σ' => ∃ p, p = (if ((x3 >>> (x7 &&& 31)) &&& (1 : Int32)) = (1 : Int32) then (if x6 ≤ 0 then pLy c N 1 0 x2 (x3 &&& (((1 : Int32) <<< (x7 &&& 31)) ^^^ (-1 : Int32))) x4 (x5 + 1) 0 0 ((x5.toNatClampNeg, x7) :: w) else pLy c N 3 0 x2 x3 x4 x5 x6 x7 w) else pLy c N 3 0 x2 x3 x4 x5 x6 x7 w) ∧ r = p.1 ∧ PLs c σ0 p.2 σ')
      unfold LB_X12_layOrder_78
      by_cases q : ((x3 >>> (x7 &&& 31)) &&& (1 : Int32)) = (1 : Int32)
      · refine Rt_fe (hasT q) (Rt_f (by decide) ?_)
        by_cases q2 : x6 ≤ 0
        · refine Rt_t q2 (Rt_fl (fun σ6 e6 => Rt_fl (fun v e => Rt_fl (fun v' e' => ?_))))
          rw [if_pos q, if_pos q2, ← e, ← e']
          refine ih 1 0 x2 v x4 v' 0 0 ((x5.toNatClampNeg, x7) :: w) σ6 ⟨by rw [e6, gi_si_ne (Or.inl (by decide))]; exact h74, fun j => ?_, fun id k a => by rw [e6, gi_si_ne (Or.inl a)]; exact h.2.2 id k a⟩
          show gi σ6 110 j = if j = x5.toNatClampNeg then x7 else pRow (gi σ0 110) w j
          rw [e6, gi_si]
          by_cases y : j = x5.toNatClampNeg
          · rw [if_pos ⟨rfl, y⟩, if_pos y]
          · rw [if_neg (fun z => y z.2), if_neg y]; exact h.2.1 j
        · refine Rt_f q2 ?_
          rw [if_pos q, if_neg q2]
          exact ih 3 0 x2 x3 x4 x5 x6 x7 w σ h
      · refine Rt_fe (hasF q) (Rt_t rfl ?_)
        rw [if_neg q]
        exact ih 3 0 x2 x3 x4 x5 x6 x7 w σ h
    · show Rt (LB_X12_layOrder_93 (LF_X12_layOrder N) x2 x3 x4 x5 x6 x7 σ) (fun r σ' => ∃ p, p = (if ((x3 >>> (x7 &&& 31)) &&& (1 : Int32)) = (1 : Int32) then pLy c N 2 0 x2 x3 x4 x5 (x6 - (1 : Int32)) (x7 + 1) w else pLy c N 2 0 x2 x3 x4 x5 (x6 - (0 : Int32)) (x7 + 1) w) ∧ r = p.1 ∧ PLs c σ0 p.2 σ')
      unfold LB_X12_layOrder_93
      by_cases q : ((x3 >>> (x7 &&& 31)) &&& (1 : Int32)) = (1 : Int32)
      · refine Rt_fe (hasT q) (Rt_f (by decide) (Rt_fl (fun v e => Rt_fl (fun v' e' => ?_))))
        rw [if_pos q, ← e, ← e']
        exact ih 2 0 x2 x3 x4 x5 v v' w σ h
      · refine Rt_fe (hasF q) (Rt_t rfl (Rt_fl (fun v e => Rt_fl (fun v' e' => ?_))))
        rw [if_neg q, ← e, ← e']
        exact ih 2 0 x2 x3 x4 x5 v v' w σ h
    · exact ⟨_, rfl, rfl, h⟩
theorem layM {n q : Nat} {a : Int32} {σ : Sg} (hn : (gi σ 74 0).toInt = (n : Int)) (n5 : n ≤ 5) (ha : a.toInt = (q : Int)) (hq : q ≤ 120) :
    Rt (F_X12_layOrder a σ) (fun r σ' => (∀ id k, id ≠ 110 → gi σ' id k = gi σ id k) ∧ ((r = 1 ∧ q < oFac n ∧ ∀ k, k < n → (gi σ' 110 k).toInt = (oF n q k : Int)) ∨ (r = 0 ∧ oFac n ≤ q))) := by
  have cn := cl_eq (x := gi σ 74 0) (by omega)
  have ca := cl_eq (x := a) (by omega)
  have en : gi σ 74 0 = nI n := by rw [← show (gi σ 74 0).toNatClampNeg = n from by omega]; exact nI_ofI (by omega)
  have ea : a = nI q := by rw [← show a.toNatClampNeg = q from by omega]; exact nI_ofI (by omega)
  have ok := pAll n (by omega) q (by omega)
  unfold F_X12_layOrder
  rw [ea]
  refine Rt_w (lySim (c := nI n) (σ0 := σ) 3000 0 (nI q) (1 : Int32) (2 : Int32) 0 0 0 0 [] σ ⟨en, fun _ => rfl, fun _ _ _ => rfl⟩) (fun r σ' ⟨p, hp, hr, h⟩ => ⟨h.2.2, ?_⟩)
  unfold pOk at ok
  rw [← hp] at ok
  by_cases c : q < oFac n
  · rw [if_pos c, Bool.and_eq_true] at ok
    refine Or.inl ⟨by rw [hr]; exact eq_of_beq ok.1, c, fun k hk => ?_⟩
    have z := eq_of_beq (List.all_eq_true.mp ok.2 k (List.mem_range.mpr hk))
    have v := oVal n (by omega) q (by have := oFac_b n (by omega); omega) c k hk
    rw [h.2.1, pLk_row _ z, nI_toInt (by omega)]
  · rw [if_neg c] at ok
    exact Or.inr ⟨by rw [hr]; exact eq_of_beq ok, by omega⟩
theorem put13 {σ : Sg} : Ru (F_X12_putBack σ) (fun σ' => ∀ id k, 138 ≤ id → id ≤ 140 → gi σ' id k = gi σ id k) := by
  unfold F_X12_putBack
  refine Ru_fl (fun σ1 e1 => ?_)
  refine Ru_w (putLM 6 0 9 σ1 (0 : Int32) rfl (by decide) rfl) (fun σ' h id k a b => ?_)
  have := h.1.1 id k (fun z => z) (fun z => by (try dsimp only at z); omega)
  rw [this, e1, gi_si_ne (Or.inl (by omega))]
theorem sav13 {σ : Sg} : Ru (F_X12_save σ) (fun σ' => ∀ id k, 138 ≤ id → id ≤ 140 → gi σ' id k = gi σ id k) := by
  unfold F_X12_save
  refine Ru_fl (fun σ1 e1 => ?_)
  refine Ru_w (savLM 6 0 9 σ1 (0 : Int32) rfl (by decide) rfl) (fun σ' h id k a b => ?_)
  have := h.1.1 id k (fun z => by (try dsimp only at z); omega) (fun z => z)
  rw [this, e1, gi_si_ne (Or.inl (by omega))]
theorem MDy_at {n k : Nat} {D : Dyn} {z : Nat → Int} {σ : Sg} {v : Int32} {x : Int} (hv : v.toInt = x) (h : MDy n (dAt z D) σ) : MDy n (dAt (fun m => if m = k then x else z m) D) (si σ 105 k v) := by
  have e : ∀ id j, ¬ id = 105 → gi (si σ 105 k v) id j = gi σ id j := fun id j a => gi_si_ne (Or.inl a)
  refine ⟨by rw [e 74 1 (by decide)]; exact h.1, fun m hm => ?_, fun m hm => by rw [e 106 m (by decide)]; exact h.2.2.1 m hm, fun m hm => by rw [e 107 m (by decide)]; exact h.2.2.2.1 m hm, fun m hm => by rw [e 108 m (by decide)]; exact h.2.2.2.2 m hm⟩
  show (gi (si σ 105 k v) 105 m).toInt = if m = k then x else z m
  rw [gi_si]
  by_cases q : m = k
  · rw [if_pos ⟨rfl, q⟩, if_pos q]; exact hv
  · rw [if_neg (fun z => q z.2), if_neg q]; exact h.2.1 m hm
noncomputable def K13 (σ0 σ : Sg) : Prop := ∀ id k, 138 ≤ id → id ≤ 140 → gi σ id k = gi σ0 id k
theorem ftsLM {n j : Nat} {K : Int} {S : Stc} {D : Dyn} {a : Int32} {σ0 : Sg} (sb : SBd n S) (ha : a.toInt = (j : Int)) (hj : j ≤ 60) (hK : K ≤ 90000) (db : DBd n K D) : ∀ (k p N : Nat) (x2 : Int32) (z : Nat → Int) (σ : Sg), p + k = n → k < N → x2.toInt = (p : Int) → (∀ m, m < p → z m = 0) → MS n S σ → MDy n (dAt z D) σ → KP σ0 σ → K13 σ0 σ →
    Rt (LF_X12_fromTheStart N a x2 σ) (fun r σ' => r.toInt = tot n (aMins S j (dAt (fun _ => 0) D)) ∧ FXz σ0 σ' ∧ K13 σ0 σ') := by
  have n6 := sb.1
  have db0 : DBd n K (dAt (fun _ => 0) D) := DBd_at db (fun m _ => ⟨Int.le_refl _, by decide⟩)
  intro k
  induction k with
  | zero =>
    intro p N x2 z σ hp hN h2 hz hs hd hk h13
    have hn := hs.1
    obtain ⟨N, rfl⟩ : ∃ i, N = i + 1 := ⟨N - 1, by omega⟩
    have hd0 : MDy n (dAt (fun _ => 0) D) σ := ⟨hd.1, fun m hm => (hd.2.1 m hm).trans (hz m (by omega)), hd.2.2⟩
    show Rt (LB_X12_fromTheStart_6 (LF_X12_fromTheStart N) a x2 σ) _
    unfold LB_X12_fromTheStart_6
    refine Rt_t (i_le (by omega)) ?_
    refine Rt_fs (gosM9 sb ha hj (by omega) db0 hs.2 hd0) (fun σ2 ⟨d2, f2, _⟩ => ?_)
    obtain ⟨r, e, v⟩ := allM n6 (MS_q f2 hs).1 (aMins_b sb j _ K db0) d2
    refine Rt_fe e ?_
    exact Rt_fs (Ru_and (putM (KP_q n6 hk f2)) put13) (fun σ5 ⟨z5, p5⟩ => Rt_p ⟨v, z5, fun id k a b => by rw [p5 id k a b, FXq_i f2 (by omega)]; exact h13 id k a b⟩)
  | succ k ih =>
    intro p N x2 z σ hp hN h2 hz hs hd hk h13
    have hn := hs.1
    obtain ⟨N, rfl⟩ : ∃ i, N = i + 1 := ⟨N - 1, by omega⟩
    have ex := cl_eq (x := x2) (by omega)
    show Rt (LB_X12_fromTheStart_6 (LF_X12_fromTheStart N) a x2 σ) _
    unfold LB_X12_fromTheStart_6
    refine Rt_f (i_nle (by omega)) ?_
    rw [show x2.toNatClampNeg = p from by omega]
    refine Rt_fl (fun σ7 e7 => Rt_fl (fun v8 e8 => ?_))
    refine ih (p + 1) N v8 (fun m => if m = p then 0 else z m) σ7 (by omega) (by omega) (by rw [e8, i_inc (by omega)]; omega) (fun m hm => ?_) (by rw [e7]; exact MS_eq (fun id j h9 => gi_si_ne (Or.inl (by omega))) hs) (by rw [e7]; exact MDy_at (rfl : (0 : Int32).toInt = 0) hd) (by rw [e7]; exact KP_si (by omega) hk) (fun id k a b => by rw [e7, gi_si_ne (Or.inl (by omega))]; exact h13 id k a b)
    show (if m = p then 0 else z m) = 0
    by_cases q : m = p
    · rw [if_pos q]
    · rw [if_neg q]; exact hz m (by omega)
theorem ftsM {n j : Nat} {K : Int} {S : Stc} {D : Dyn} {a : Int32} {σ : Sg} (h : HMo n K S D σ) (ha : a.toInt = (j : Int)) (hj : j ≤ 60) : Rt (F_X12_fromTheStart a σ) (fun r σ' => r.toInt = tot n (aMins S j (dAt (fun _ => 0) D)) ∧ FXz σ σ' ∧ K13 σ σ') := by
  obtain ⟨sb, db, hK, hr, h99, hs, hd⟩ := h
  have n6 := sb.1
  unfold F_X12_fromTheStart
  exact Rt_fs (Ru_and (savM n6 hs hd) sav13) (fun σ1 ⟨⟨k1, s1, d1, _, _⟩, p1⟩ => ftsLM sb ha hj (by omega) db n 0 20 (0 : Int32) (D_at D) σ1 (by omega) (by omega) rfl (fun m hm => absurd hm (Nat.not_lt_zero m)) s1 d1 k1 p1)
