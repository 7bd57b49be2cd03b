/-! the orders, one after the other -/
theorem has_bit : ∀ n, n < 32 → ∀ m, m < 6 → (((nI n >>> (nI m &&& 31)) &&& (1 : Int32)) = 1 ↔ n.testBit m = true) := by decide +kernel
noncomputable def pcn (n m : Nat) : Nat := ((List.range 5).filter (fun i => decide (m ≤ i) && n.testBit i)).length
theorem pcn_t : ∀ n, n < 32 → ∀ m, m < 6 → n.testBit m = true → pcn n m = pcn n (m + 1) + 1 := by decide +kernel
theorem pcn_f : ∀ n, n < 32 → ∀ m, m < 6 → n.testBit m = false → pcn n m = pcn n (m + 1) := by decide +kernel
theorem pcn_5 : ∀ n, n < 32 → ∀ m, m < 6 → 0 < pcn n m → m < 5 := by decide +kernel
theorem lay_bits : ∀ c, c < 6 → ((1 : Int32) <<< (nI c &&& 31)) - (1 : Int32) = nI (2 ^ c - 1) ∧ 2 ^ c - 1 < 32 ∧ pcn (2 ^ c - 1) 0 = c := by decide +kernel
theorem lay_clr : ∀ n, n < 32 → ∀ m, m < 5 → n.testBit m = true → (nI n &&& (((1 : Int32) <<< (nI m &&& 31)) ^^^ (-1 : Int32))) = nI (n - 2 ^ m) ∧ n - 2 ^ m < 32 ∧ pcn (n - 2 ^ m) 0 + 1 = pcn n 0 := by decide +kernel
theorem asN {x : Int32} (h0 : 0 ≤ x.toInt) : x = nI x.toNatClampNeg := Int32.toInt_inj.mp (by rw [nI_toInt (by have := Int32.toInt_lt x; have := cl_eq h0; omega)]; exact (cl_eq h0).symm)
/-- the bits that are left: how many -/
noncomputable def LB (x : Int32) (c : Int) : Prop := ∃ n : Nat, n < 32 ∧ x = nI n ∧ (pcn n 0 : Int) = c
noncomputable def LQ (x m nth : Int32) (c : Int) : Prop := ∃ n : Nat, n < 32 ∧ x = nI n ∧ (pcn n 0 : Int) = c ∧ 0 ≤ nth.toInt ∧ nth.toInt < (pcn n m.toNatClampNeg : Int)
noncomputable def L9 (x m nth : Int32) (c : Int) : Prop := ∃ n : Nat, n < 32 ∧ x = nI n ∧ (pcn n 0 : Int) = c ∧ 0 ≤ nth.toInt ∧ nth.toInt < (pcn n m.toNatClampNeg : Int) ∧ (n.testBit m.toNatClampNeg = true → 0 < nth.toInt)
theorem LB_0 {x v : Int32} (h0 : 0 ≤ x.toInt) (h5 : x.toInt ≤ 5) (e : v = ((1 : Int32) <<< (x &&& 31)) - (1 : Int32)) : LB v x.toInt := by
  have ec := cl_eq h0
  have q := lay_bits x.toNatClampNeg (by omega)
  rw [← asN h0] at q
  exact ⟨_, q.2.1, e.trans q.1, by rw [q.2.2]; exact ec⟩
theorem LQ_0 {x m nth : Int32} {c : Int} (h : LB x c) (hm : m.toInt = 0) (h0 : 0 ≤ nth.toInt) (h1 : nth.toInt < c) : LQ x m nth c := by
  obtain ⟨n, hn, e, p⟩ := h
  refine ⟨n, hn, e, p, h0, ?_⟩
  rw [show m.toNatClampNeg = 0 from congrArg Int.toNat hm, p]; exact h1
theorem LQ_le {x m nth : Int32} {c : Int} (h : LQ x m nth c) (h0 : 0 ≤ m.toInt) (h5 : m.toInt ≤ 5) : m.toInt ≤ 4 := by
  obtain ⟨n, hn, e, p, n0, n1⟩ := h
  have ec := cl_eq h0
  have := pcn_5 n hn m.toNatClampNeg (by omega) (by omega)
  omega
/-- what 'has' says of a bit -/
noncomputable def BQ (r x m : Int32) : Prop := ∀ n j : Nat, n < 32 → j < 6 → x = nI n → m = nI j → (r.toInt = 1 ∧ n.testBit j = true) ∨ (r.toInt = 0 ∧ n.testBit j = false)
theorem BQ_0 {x m : Int32} (h : ¬ ((x >>> (m &&& 31)) &&& (1 : Int32)) = (1 : Int32)) : BQ 0 x m := fun n j hn hj e1 e2 => by
  subst e1 e2
  refine Or.inr ⟨rfl, ?_⟩
  cases hb : n.testBit j with
  | false => rfl
  | true => exact absurd ((has_bit n hn j hj).mpr hb) h
theorem BQ_1 {x m : Int32} (h : ((x >>> (m &&& 31)) &&& (1 : Int32)) = (1 : Int32)) : BQ 1 x m := fun n j hn hj e1 e2 => by
  subst e1 e2
  exact Or.inl ⟨rfl, (has_bit n hn j hj).mp h⟩
theorem L9_f {r x m nth : Int32} {c : Int} (h : LQ x m nth c) (q : BQ r x m) (h0 : 0 ≤ m.toInt) (h5 : m.toInt ≤ 5) (hr : r.toInt = 0) : L9 x m nth c := by
  obtain ⟨n, hn, e, p, n0, n1⟩ := h
  have ec := cl_eq h0
  refine ⟨n, hn, e, p, n0, n1, fun z => ?_⟩
  rcases q n m.toNatClampNeg hn (by omega) e (asN h0) with y | y
  · omega
  · rw [y.2] at z; cases z
theorem L9_t {x m nth : Int32} {c : Int} (h : LQ x m nth c) (hn0 : 0 < nth.toInt) : L9 x m nth c := by
  obtain ⟨n, hn, e, p, n0, n1⟩ := h
  exact ⟨n, hn, e, p, n0, n1, fun _ => hn0⟩
theorem LQ_sf {r x m m' nth nth' : Int32} {c : Int} (h : L9 x m nth c) (q : BQ r x m) (h0 : 0 ≤ m.toInt) (h5 : m.toInt ≤ 4) (hr : r.toInt = 0) (em : m'.toInt = m.toInt + 1) (en : nth'.toInt = nth.toInt) : LQ x m' nth' c := by
  obtain ⟨n, hn, e, p, n0, n1, n2⟩ := h
  have ec := cl_eq h0
  have ec' := cl_eq (x := m') (by omega)
  rcases q n m.toNatClampNeg hn (by omega) e (asN h0) with y | y
  · omega
  · have z := pcn_f n hn m.toNatClampNeg (by omega) y.2
    refine ⟨n, hn, e, p, by omega, ?_⟩
    rw [show m'.toNatClampNeg = m.toNatClampNeg + 1 from by omega, ← z, en]; exact n1
theorem LQ_st {r x m m' nth nth' : Int32} {c : Int} (h : L9 x m nth c) (q : BQ r x m) (h0 : 0 ≤ m.toInt) (h5 : m.toInt ≤ 4) (hr : r.toInt = 1) (em : m'.toInt = m.toInt + 1) (en : nth'.toInt = nth.toInt - 1) : LQ x m' nth' c := by
  obtain ⟨n, hn, e, p, n0, n1, n2⟩ := h
  have ec := cl_eq h0
  have ec' := cl_eq (x := m') (by omega)
  rcases q n m.toNatClampNeg hn (by omega) e (asN h0) with y | y
  · have z := pcn_t n hn m.toNatClampNeg (by omega) y.2
    have w := n2 y.2
    refine ⟨n, hn, e, p, by omega, ?_⟩
    rw [show m'.toNatClampNeg = m.toNatClampNeg + 1 from by omega]; omega
  · omega
theorem L9_le {x m nth : Int32} {c : Int} (h : L9 x m nth c) (h0 : 0 ≤ m.toInt) (h5 : m.toInt ≤ 5) : m.toInt ≤ 4 := by
  obtain ⟨n, hn, e, p, n0, n1, n2⟩ := h
  exact LQ_le ⟨n, hn, e, p, n0, n1⟩ h0 h5
theorem LB_clr {r x m nth v : Int32} {c c' : Int} (h : LQ x m nth c) (q : BQ r x m) (h0 : 0 ≤ m.toInt) (h5 : m.toInt ≤ 4) (hr : r.toInt = 1) (e : v = x &&& (((1 : Int32) <<< (m &&& 31)) ^^^ (-1 : Int32))) (hc : c' = c - 1) : LB v c' := by
  obtain ⟨n, hn, ex, p, n0, n1⟩ := h
  have ec := cl_eq h0
  rcases q n m.toNatClampNeg hn (by omega) ex (asN h0) with y | y
  · have z := lay_clr n hn m.toNatClampNeg (by omega) y.2
    rw [← asN h0, ← ex] at z
    exact ⟨_, z.2.1, e.trans z.1, by omega⟩
  · omega
/-- how many ways: k one less than told, in all -/
noncomputable def FK (k w : Int) : Prop := (k = 2 ∧ w = 1) ∨ (k = 3 ∧ w = 2) ∨ (k = 4 ∧ w = 6) ∨ (k = 5 ∧ w = 24) ∨ (k = 6 ∧ w = 120)
noncomputable def FCT (c w : Int) : Prop := (c = 0 ∧ w = 1) ∨ (c = 1 ∧ w = 1) ∨ (c = 2 ∧ w = 2) ∨ (c = 3 ∧ w = 6) ∨ (c = 4 ∧ w = 24) ∨ (c = 5 ∧ w = 120)
theorem FK_step {k w : Int} (h : FK k w) (h5 : k ≤ 5) : FK (k + 1) (w * k) ∧ 1 ≤ w * k ∧ w * k ≤ 120 := by
  rcases h with ⟨rfl, rfl⟩ | ⟨rfl, rfl⟩ | ⟨rfl, rfl⟩ | ⟨rfl, rfl⟩ | ⟨rfl, rfl⟩
  · exact ⟨Or.inr (Or.inl ⟨rfl, rfl⟩), by decide, by decide⟩
  · exact ⟨Or.inr (Or.inr (Or.inl ⟨rfl, rfl⟩)), by decide, by decide⟩
  · exact ⟨Or.inr (Or.inr (Or.inr (Or.inl ⟨rfl, rfl⟩))), by decide, by decide⟩
  · exact ⟨Or.inr (Or.inr (Or.inr (Or.inr ⟨rfl, rfl⟩))), by decide, by decide⟩
  · omega
theorem FK_b {k w : Int} (h : FK k w) : 1 ≤ w ∧ w ≤ 120 := by
  rcases h with ⟨rfl, rfl⟩ | ⟨rfl, rfl⟩ | ⟨rfl, rfl⟩ | ⟨rfl, rfl⟩ | ⟨rfl, rfl⟩ <;> decide
theorem FK_F {k w c : Int} (h : FK k w) (h0 : 0 ≤ c) (h1 : c < k) (h2 : k = 2 ∨ k ≤ c + 1) : FCT c w := by
  rcases h with ⟨rfl, rfl⟩ | ⟨rfl, rfl⟩ | ⟨rfl, rfl⟩ | ⟨rfl, rfl⟩ | ⟨rfl, rfl⟩
  · rcases (show c = 0 ∨ c = 1 by omega) with rfl | rfl
    · exact Or.inl ⟨rfl, rfl⟩
    · exact Or.inr (Or.inl ⟨rfl, rfl⟩)
  · obtain rfl : c = 2 := by omega
    exact Or.inr (Or.inr (Or.inl ⟨rfl, rfl⟩))
  · obtain rfl : c = 3 := by omega
    exact Or.inr (Or.inr (Or.inr (Or.inl ⟨rfl, rfl⟩)))
  · obtain rfl : c = 4 := by omega
    exact Or.inr (Or.inr (Or.inr (Or.inr (Or.inl ⟨rfl, rfl⟩))))
  · obtain rfl : c = 5 := by omega
    exact Or.inr (Or.inr (Or.inr (Or.inr (Or.inr ⟨rfl, rfl⟩))))
theorem FCT_step {c w : Int} (h : FCT c w) (h1 : 1 ≤ c) : FCT (c - 1) (w / c) ∧ 1 ≤ w / c ∧ w / c ≤ 24 ∧ w = w / c * c := by
  rcases h with ⟨rfl, rfl⟩ | ⟨rfl, rfl⟩ | ⟨rfl, rfl⟩ | ⟨rfl, rfl⟩ | ⟨rfl, rfl⟩ | ⟨rfl, rfl⟩
  · omega
  · exact ⟨Or.inl ⟨rfl, rfl⟩, by decide, by decide, by decide⟩
  · exact ⟨Or.inr (Or.inl ⟨rfl, rfl⟩), by decide, by decide, by decide⟩
  · exact ⟨Or.inr (Or.inr (Or.inl ⟨rfl, rfl⟩)), by decide, by decide, by decide⟩
  · exact ⟨Or.inr (Or.inr (Or.inr (Or.inl ⟨rfl, rfl⟩))), by decide, by decide, by decide⟩
  · exact ⟨Or.inr (Or.inr (Or.inr (Or.inr (Or.inl ⟨rfl, rfl⟩)))), by decide, by decide, by decide⟩
theorem nth_lt {x w d c : Int} (h1 : x < w) (hw : w = d * c) (hd : 1 ≤ d) : x / d < c := Int.ediv_lt_of_lt_mul (by omega) (by rw [Int.mul_comm, ← hw]; exact h1)
theorem L9_pos {r x m nth : Int32} {c : Int} (h : L9 x m nth c) (q : BQ r x m) (h0 : 0 ≤ m.toInt) (h5 : m.toInt ≤ 5) (hr : r.toInt = 1) : 0 < nth.toInt := by
  obtain ⟨n, hn, e, p, n0, n1, n2⟩ := h
  have ec := cl_eq h0
  rcases q n m.toNatClampNeg hn (by omega) e (asN h0) with y | y
  · exact n2 y.2
  · omega
set_option maxRecDepth 100000 in
set_option maxHeartbeats 4000000 in
theorem kb_X12_has {l : Launch} {V : Vx} {a1 : Int32} {a2 : Int32} {σ0 : Sg} {Qk : Int32 → Sg → Prop} (m0 : MI σ0) (h9ret : ∀ (r : Int32) (σ' : Sg), MI σ' → Fr [] [] σ0 σ' → (0 ≤ r.toInt) → (r.toInt ≤ 1) → (BQ r a1 a2) → Qk r σ') : K_X12_has l V a1 a2 σ0 Qk := by
  refine e_X12_has (fun M hl hV hN C => ?_)
  subst hl
  subst hV
  have f0 : Fr [] [] σ0 σ0 := Fr_rf
  refine s_X12_has_0 C hN ?_
  refine ⟨?_, ?_⟩
  · intro q_1
    have w_2 := Int32.toInt_lt a1
    have w_3 := Int32.le_toInt a1
    have w_4 := Int32.toInt_lt a2
    have w_5 := Int32.le_toInt a2
    have b_6 : ¬ ((a1 >>> (a2 &&& (31 : Int32))) &&& (1 : Int32)).toInt = 1 := fun h9 => q_1 (Int32.toInt_inj.mp h9)
    have z_7 : (0 : Int32).toInt = 0 := rfl
    exact h9ret (0 : Int32) σ0 m0 f0 (by omega) (by omega) (by first | exact BQ_0 (by assumption) | exact BQ_1 (by assumption))
  · intro q_1
    have w_8 := Int32.toInt_lt a1
    have w_9 := Int32.le_toInt a1
    have w_10 := Int32.toInt_lt a2
    have w_11 := Int32.le_toInt a2
    have b_12 : ((a1 >>> (a2 &&& (31 : Int32))) &&& (1 : Int32)).toInt = 1 := congrArg Int32.toInt q_1
    have z_13 : (1 : Int32).toInt = 1 := rfl
    exact h9ret (1 : Int32) σ0 m0 f0 (by omega) (by omega) (by first | exact BQ_0 (by assumption) | exact BQ_1 (by assumption))
set_option maxRecDepth 100000 in
set_option maxHeartbeats 4000000 in
theorem k_X12_layOrder {l : Launch} {V : Vx} {a1 : Int32} {σ0 : Sg} {Qk : Int32 → Sg → Prop} (m0 : MI σ0) (l_a1 : 0 ≤ a1.toInt) (u_a1 : a1.toInt ≤ 200) (pre0 : (gi σ0 74 0).toInt ≤ 5) (h9ret : ∀ (r : Int32) (σ' : Sg), MI σ' → Fr [110] [] σ0 σ' → (0 ≤ r.toInt) → (r.toInt ≤ 1) → ((r.toInt = 1 ∧ a1.toInt ≤ 119) ∨ r.toInt = 0) → Qk r σ') : K_X12_layOrder l V a1 σ0 Qk := by
  refine e_X12_layOrder (fun M hl hV hN C => ?_)
  subst hl
  subst hV
  have T : ∀ n : Nat, (∀ (x1 : Int32) (x2 : Int32) (x3 : Int32) (σ : Sg), MI σ → Fr [110] [] σ0 σ → (0 ≤ x1.toInt) → (x1.toInt ≤ 200) → (1 ≤ x2.toInt) → (x2.toInt ≤ 120) → (2 ≤ x3.toInt) → (x3.toInt ≤ 6) → (x1.toInt = a1.toInt) → (hid (FK x3.toInt x2.toInt)) → (x3.toInt = 2 ∨ x3.toInt ≤ (gi σ 74 0).toInt + 1) → ((gi σ 74 0).toInt ≤ 5) → (8 - x3.toInt).toNat + 2000 < n → PS M 4 [(0, .ref 74), (1, .int x1), (2, .int x2), (3, .int x3)] [] σ (0, 0)) ∧ (∀ (x2 : Int32) (x3 : Int32) (x4 : Int32) (x5 : Int32) (σ : Sg), MI σ → Fr [110] [] σ0 σ → (1 ≤ x2.toInt) → (x2.toInt ≤ 120) → (0 ≤ x4.toInt) → (x4.toInt ≤ 119) → (0 ≤ x5.toInt) → (x5.toInt ≤ 5) → (hid (FCT ((gi σ 74 0).toInt - x5.toInt) x2.toInt)) → (x4.toInt < x2.toInt) → (LB x3 ((gi σ 74 0).toInt - x5.toInt)) → (x5.toInt ≤ (gi σ 74 0).toInt) → ((gi σ 74 0).toInt ≤ 5) → (a1.toInt ≤ 119) → (7 - x5.toInt).toNat * 100 + 50 < n → PS M 44 [(0, .ref 74), (2, .int x2), (3, .int x3), (4, .int x4), (5, .int x5)] [] σ (0, 0)) ∧ (∀ (x2 : Int32) (x3 : Int32) (x4 : Int32) (x5 : Int32) (x6 : Int32) (x7 : Int32) (σ : Sg), MI σ → Fr [110] [] σ0 σ → (1 ≤ x2.toInt) → (x2.toInt ≤ 24) → (0 ≤ x4.toInt) → (x4.toInt ≤ 119) → (0 ≤ x5.toInt) → (x5.toInt ≤ 4) → (0 ≤ x6.toInt) → (x6.toInt ≤ 5) → (0 ≤ x7.toInt) → (x7.toInt ≤ 5) → (hid (FCT ((gi σ 74 0).toInt - x5.toInt - 1) x2.toInt)) → (x4.toInt < x2.toInt) → (LQ x3 x7 x6 ((gi σ 74 0).toInt - x5.toInt)) → (x5.toInt < (gi σ 74 0).toInt) → ((gi σ 74 0).toInt ≤ 5) → (a1.toInt ≤ 119) → (7 - x5.toInt).toNat * 100 + (6 - x7.toInt).toNat * 3 + 1 < n → PS M 78 [(0, .ref 74), (2, .int x2), (3, .int x3), (4, .int x4), (5, .int x5), (6, .int x6), (7, .int x7)] [] σ (0, 0)) ∧ (∀ (x2 : Int32) (x3 : Int32) (x4 : Int32) (x5 : Int32) (x6 : Int32) (x7 : Int32) (σ : Sg), MI σ → Fr [110] [] σ0 σ → (1 ≤ x2.toInt) → (x2.toInt ≤ 24) → (0 ≤ x4.toInt) → (x4.toInt ≤ 119) → (0 ≤ x5.toInt) → (x5.toInt ≤ 4) → (0 ≤ x6.toInt) → (x6.toInt ≤ 5) → (0 ≤ x7.toInt) → (x7.toInt ≤ 5) → (hid (FCT ((gi σ 74 0).toInt - x5.toInt - 1) x2.toInt)) → (x4.toInt < x2.toInt) → (L9 x3 x7 x6 ((gi σ 74 0).toInt - x5.toInt)) → (x5.toInt < (gi σ 74 0).toInt) → ((gi σ 74 0).toInt ≤ 5) → (a1.toInt ≤ 119) → (7 - x5.toInt).toNat * 100 + (6 - x7.toInt).toNat * 3 < n → PS M 93 [(0, .ref 74), (2, .int x2), (3, .int x3), (4, .int x4), (5, .int x5), (6, .int x6), (7, .int x7)] [] σ (0, 0)) := by
    intro n
    induction n with
    | zero => exact ⟨fun _ _ _ _ _ _ _ _ _ _ _ _ _ _ _ _ h8 => absurd h8 (Nat.not_lt_zero _), fun _ _ _ _ _ _ _ _ _ _ _ _ _ _ _ _ _ _ _ h8 => absurd h8 (Nat.not_lt_zero _), fun _ _ _ _ _ _ _ _ _ _ _ _ _ _ _ _ _ _ _ _ _ _ _ _ _ h8 => absurd h8 (Nat.not_lt_zero _), fun _ _ _ _ _ _ _ _ _ _ _ _ _ _ _ _ _ _ _ _ _ _ _ _ _ h8 => absurd h8 (Nat.not_lt_zero _)⟩
    | succ n ih =>
      obtain ⟨ih4, ih44, ih78, ih93⟩ := ih
      refine ⟨?_, ?_, ?_, ?_⟩
      · intro x1 x2 x3 σ mσ fσ lx1 ux1 lx2 ux2 lx3 ux3 i0 i1 i2 i3 hmu
        have mw := MI_f0 mσ
        refine s_X12_layOrder_4 C hN ?_
        refine ⟨?_, ?_⟩
        · intro q_1
          have t_2 := MI_f0 mσ
          have b_3 : (gi σ 74 0).toInt < x3.toInt := Int32.lt_iff_toInt_lt.mp q_1
          refine ⟨?_, ?_⟩
          · intro q_4
            have b_5 : x1.toInt < x2.toInt := Int32.lt_iff_toInt_lt.mp q_4
            intro v3 ev3
            have z_6 : (0 : Int32).toInt = 0 := rfl
            exact ih44 x2 v3 x1 (0 : Int32) σ mσ fσ (by omega) (by omega) (by omega) (by omega) (by omega) (by omega) (by first | (rw [show ((0 : Int32).toInt : Int) = 0 from rfl, Int.sub_zero]; exact FK_F (un i1) (by omega) (by omega) (by omega)) | (rw [show (gi σ6 74 0).toInt - v8.toInt = (gi σ 74 0).toInt - x5.toInt - 1 from by omega]; exact i0)) (by first | omega | assumption | rfl) (by first | (rw [show ((0 : Int32).toInt : Int) = 0 from rfl, Int.sub_zero]; exact LB_0 (by omega) (by omega) ev3) | exact LB_clr i2 pσ1_0 (by omega) (by omega) (by omega) ev7 (by omega)) (by first | omega | assumption | rfl) (by first | omega | assumption | rfl) (by first | omega | assumption | rfl) (by omega)
          · intro q_4
            have b_7 : ¬ x1.toInt < x2.toInt := fun h9 => q_4 (Int32.lt_iff_toInt_lt.mpr h9)
            have z_8 : (0 : Int32).toInt = 0 := rfl
            exact h9ret (0 : Int32) σ mσ fσ (by omega) (by omega) (by first | omega | assumption | rfl)
        · intro q_1
          have t_9 := MI_f0 mσ
          have b_10 : ¬ (gi σ 74 0).toInt < x3.toInt := fun h9 => q_1 (Int32.lt_iff_toInt_lt.mpr h9)
          intro v4 ev4
          obtain ⟨fk1, fk2, fk3⟩ := FK_step (un i1) (by omega)
          have uv4 : v4.toInt = x2.toInt * x3.toInt := by rw [ev4]; exact i_mul0 rfl (by omega) (by omega)
          intro v5 ev5
          have t_11 : (x3 + (1 : Int32)).toInt = x3.toInt + 1 := i_add (x := x3) (y := (1 : Int32)) (by show (_ : Int) ≤ x3.toInt + 1; omega) (by show x3.toInt + 1 ≤ (_ : Int); omega)
          have t_12 : v5.toInt = (x3 + (1 : Int32)).toInt := congrArg Int32.toInt ev5
          exact ih4 x1 v4 v5 σ mσ fσ (by omega) (by omega) (by omega) (by omega) (by omega) (by omega) (by first | omega | assumption | rfl) (by first | exact Or.inl ⟨rfl, rfl⟩ | (rw [show v5.toInt = x3.toInt + 1 from by omega, uv4]; exact fk1)) (by first | omega | assumption | rfl) (by first | omega | assumption | rfl) (by omega)
      · intro x2 x3 x4 x5 σ mσ fσ lx2 ux2 lx4 ux4 lx5 ux5 i0 i1 i2 i3 i4 i5 hmu
        have mw := MI_f0 mσ
        refine s_X12_layOrder_44 C hN ?_
        refine ⟨?_, ?_⟩
        · intro q_13
          have t_14 := MI_f0 mσ
          have b_15 : (gi σ 74 0).toInt ≤ x5.toInt := Int32.le_iff_toInt_le.mp q_13
          have z_16 : (1 : Int32).toInt = 1 := rfl
          exact h9ret (1 : Int32) σ mσ fσ (by omega) (by omega) (by first | omega | assumption | rfl)
        · intro q_13
          have t_17 := MI_f0 mσ
          have b_18 : ¬ (gi σ 74 0).toInt ≤ x5.toInt := fun h9 => q_13 (Int32.le_iff_toInt_le.mpr h9)
          have t_19 : ((gi σ 74 0) - x5).toInt = (gi σ 74 0).toInt - x5.toInt := i_sub (x := (gi σ 74 0)) (y := x5) (by show (_ : Int) ≤ (gi σ 74 0).toInt - x5.toInt; omega) (by show (gi σ 74 0).toInt - x5.toInt ≤ (_ : Int); omega)
          refine ⟨fun h9 => ?_, ?_⟩
          · have h9 : ((gi σ 74 0) - x5).toInt = 0 := congrArg Int32.toInt h9
            omega
          intro v3 ev3
          have u3 : v3.toInt = x2.toInt / ((gi σ 74 0).toInt - x5.toInt) := by rw [ev3]; exact i_div (by omega) (by omega) (by omega)
          obtain ⟨f1, f2, f3, f4⟩ := FCT_step (un i0) (by omega)
          rw [← u3] at f1 f2 f3 f4
          have f1 : hid _ := f1
          have f4 : hid _ := f4
          clear u3
          refine ⟨fun h9 => ?_, ?_⟩
          · have h9 : v3.toInt = 0 := congrArg Int32.toInt h9
            omega
          intro v5 ev5
          have u5 : v5.toInt = x4.toInt / v3.toInt := by rw [ev5]; exact i_div (by omega) (by omega) rfl
          have n5 : v5.toInt < ((gi σ 74 0).toInt - x5.toInt) := by rw [u5]; exact nth_lt i1 (un f4) (by omega)
          have p5 : 0 ≤ v5.toInt := by rw [u5]; exact Int.ediv_nonneg (by omega) (by omega)
          clear u5
          refine ⟨fun h9 => ?_, ?_⟩
          · have h9 : v3.toInt = 0 := congrArg Int32.toInt h9
            omega
          intro v7 ev7
          have u7 : v7.toInt = x4.toInt % v3.toInt := by rw [ev7]; exact i_rem (by omega) (by omega) rfl
          have p7 := Int.emod_nonneg x4.toInt (show v3.toInt ≠ 0 by omega)
          have n7 := Int.emod_lt_of_pos x4.toInt (show 0 < v3.toInt by omega)
          rw [← u7] at p7 n7
          clear u7
          have z_20 : (0 : Int32).toInt = 0 := rfl
          exact ih78 v3 x3 v7 x5 v5 (0 : Int32) σ mσ fσ (by omega) (by omega) (by omega) (by omega) (by omega) (by omega) (by omega) (by omega) (by omega) (by omega) (by first | omega | assumption | rfl) (by first | omega | assumption | rfl) (by first | exact LQ_0 i2 rfl (by omega) (by omega) | exact LQ_sf i2 pσ1_0 (by omega) (by omega) (by omega) (by omega) (by omega) | exact LQ_st i2 pσ1_0 (by omega) (by omega) (by omega) (by omega) (by omega)) (by first | omega | assumption | rfl) (by first | omega | assumption | rfl) (by first | omega | assumption | rfl) (by omega)
      · intro x2 x3 x4 x5 x6 x7 σ mσ fσ lx2 ux2 lx4 ux4 lx5 ux5 lx6 ux6 lx7 ux7 i0 i1 i2 i3 i4 i5 hmu
        have mw := MI_f0 mσ
        have le7 := LQ_le i2 (by omega) (by omega)
        refine s_X12_layOrder_78 C hN ?_
        refine kb_X12_has mσ  (fun r2 σ1 mσ1 cσ1 plσ1 phσ1 (pσ1_0 : BQ r2 x3 x7) => ?_)
        obtain rfl := Fr_nil cσ1
        refine ⟨?_, ?_⟩
        · intro q_21
          have b_22 : r2.toInt = 0 := congrArg Int32.toInt q_21
          exact ih93 x2 x3 x4 x5 x6 x7 σ mσ fσ (by omega) (by omega) (by omega) (by omega) (by omega) (by omega) (by omega) (by omega) (by omega) (by omega) (by first | omega | assumption | rfl) (by first | omega | assumption | rfl) (by first | exact L9_f i2 pσ1_0 (by omega) (by omega) (by omega) | exact L9_t i2 (by omega)) (by first | omega | assumption | rfl) (by first | omega | assumption | rfl) (by first | omega | assumption | rfl) (by omega)
        · intro q_21
          have b_23 : ¬ r2.toInt = 0 := fun h9 => q_21 (Int32.toInt_inj.mp h9)
          refine ⟨?_, ?_⟩
          · intro q_24
            have b_25 : x6.toInt ≤ 0 := Int32.le_iff_toInt_le.mp q_24
            have hv_26 : vp_in x5 6 := vp_in_iff.mpr ⟨by omega, by omega⟩
            refine ⟨hv_26, ?_⟩
            intro σ6 eσ6
            have mσ6 : MI σ6 := by rw [eσ6]; exact MIs_a110 mσ (by omega) (by omega)
            have fσ6 : Fr [110] [] σ0 σ6 := by rw [eσ6]; exact Fr_si fσ (by decide) (fun h9 => absurd h9 (by decide))
            have k_27 : (gi σ6 74 0).toInt = (gi σ 74 0).toInt := by rw [eσ6]; exact congrArg Int32.toInt (gi_si_ne (Or.inl (by decide)))
            intro v7 ev7
            intro v8 ev8
            have t_28 : (x5 + (1 : Int32)).toInt = x5.toInt + 1 := i_add (x := x5) (y := (1 : Int32)) (by show (_ : Int) ≤ x5.toInt + 1; omega) (by show x5.toInt + 1 ≤ (_ : Int); omega)
            have t_29 : v8.toInt = (x5 + (1 : Int32)).toInt := congrArg Int32.toInt ev8
            exact ih44 x2 v7 x4 v8 σ6 mσ6 fσ6 (by omega) (by omega) (by omega) (by omega) (by omega) (by omega) (by first | (rw [show ((0 : Int32).toInt : Int) = 0 from rfl, Int.sub_zero]; exact FK_F (un i1) (by omega) (by omega) (by omega)) | (rw [show (gi σ6 74 0).toInt - v8.toInt = (gi σ 74 0).toInt - x5.toInt - 1 from by omega]; exact i0)) (by first | omega | assumption | rfl) (by first | (rw [show ((0 : Int32).toInt : Int) = 0 from rfl, Int.sub_zero]; exact LB_0 (by omega) (by omega) ev3) | exact LB_clr i2 pσ1_0 (by omega) (by omega) (by omega) ev7 (by omega)) (by first | omega | assumption | rfl) (by first | omega | assumption | rfl) (by first | omega | assumption | rfl) (by omega)
          · intro q_24
            have b_30 : ¬ x6.toInt ≤ 0 := fun h9 => q_24 (Int32.le_iff_toInt_le.mpr h9)
            exact ih93 x2 x3 x4 x5 x6 x7 σ mσ fσ (by omega) (by omega) (by omega) (by omega) (by omega) (by omega) (by omega) (by omega) (by omega) (by omega) (by first | omega | assumption | rfl) (by first | omega | assumption | rfl) (by first | exact L9_f i2 pσ1_0 (by omega) (by omega) (by omega) | exact L9_t i2 (by omega)) (by first | omega | assumption | rfl) (by first | omega | assumption | rfl) (by first | omega | assumption | rfl) (by omega)
      · intro x2 x3 x4 x5 x6 x7 σ mσ fσ lx2 ux2 lx4 ux4 lx5 ux5 lx6 ux6 lx7 ux7 i0 i1 i2 i3 i4 i5 hmu
        have mw := MI_f0 mσ
        have le7 := L9_le i2 (by omega) (by omega)
        refine s_X12_layOrder_93 C hN ?_
        refine kb_X12_has mσ  (fun r2 σ1 mσ1 cσ1 plσ1 phσ1 (pσ1_0 : BQ r2 x3 x7) => ?_)
        obtain rfl := Fr_nil cσ1
        refine ⟨?_, ?_⟩
        · intro q_31
          have b_32 : r2.toInt = 0 := congrArg Int32.toInt q_31
          intro v4 ev4
          have t_33 : (x6 - (0 : Int32)).toInt = x6.toInt - 0 := i_sub (x := x6) (y := (0 : Int32)) (by show (_ : Int) ≤ x6.toInt - 0; omega) (by show x6.toInt - 0 ≤ (_ : Int); omega)
          have t_34 : v4.toInt = (x6 - (0 : Int32)).toInt := congrArg Int32.toInt ev4
          intro v5 ev5
          have t_35 : (x7 + (1 : Int32)).toInt = x7.toInt + 1 := i_add (x := x7) (y := (1 : Int32)) (by show (_ : Int) ≤ x7.toInt + 1; omega) (by show x7.toInt + 1 ≤ (_ : Int); omega)
          have t_36 : v5.toInt = (x7 + (1 : Int32)).toInt := congrArg Int32.toInt ev5
          exact ih78 x2 x3 x4 x5 v4 v5 σ mσ fσ (by omega) (by omega) (by omega) (by omega) (by omega) (by omega) (by omega) (by omega) (by omega) (by omega) (by first | omega | assumption | rfl) (by first | omega | assumption | rfl) (by first | exact LQ_0 i2 rfl (by omega) (by omega) | exact LQ_sf i2 pσ1_0 (by omega) (by omega) (by omega) (by omega) (by omega) | exact LQ_st i2 pσ1_0 (by omega) (by omega) (by omega) (by omega) (by omega)) (by first | omega | assumption | rfl) (by first | omega | assumption | rfl) (by first | omega | assumption | rfl) (by omega)
        · intro q_31
          have b_37 : ¬ r2.toInt = 0 := fun h9 => q_31 (Int32.toInt_inj.mp h9)
          have w9 := L9_pos i2 pσ1_0 (by omega) (by omega) (by omega)
          intro v6 ev6
          have t_38 : (x6 - (1 : Int32)).toInt = x6.toInt - 1 := i_sub (x := x6) (y := (1 : Int32)) (by show (_ : Int) ≤ x6.toInt - 1; omega) (by show x6.toInt - 1 ≤ (_ : Int); omega)
          have t_39 : v6.toInt = (x6 - (1 : Int32)).toInt := congrArg Int32.toInt ev6
          intro v7 ev7
          have t_40 : (x7 + (1 : Int32)).toInt = x7.toInt + 1 := i_add (x := x7) (y := (1 : Int32)) (by show (_ : Int) ≤ x7.toInt + 1; omega) (by show x7.toInt + 1 ≤ (_ : Int); omega)
          have t_41 : v7.toInt = (x7 + (1 : Int32)).toInt := congrArg Int32.toInt ev7
          exact ih78 x2 x3 x4 x5 v6 v7 σ mσ fσ (by omega) (by omega) (by omega) (by omega) (by omega) (by omega) (by omega) (by omega) (by omega) (by omega) (by first | omega | assumption | rfl) (by first | omega | assumption | rfl) (by first | exact LQ_0 i2 rfl (by omega) (by omega) | exact LQ_sf i2 pσ1_0 (by omega) (by omega) (by omega) (by omega) (by omega) | exact LQ_st i2 pσ1_0 (by omega) (by omega) (by omega) (by omega) (by omega)) (by first | omega | assumption | rfl) (by first | omega | assumption | rfl) (by first | omega | assumption | rfl) (by omega)
  obtain ⟨U4, U44, U78, U93⟩ := T 3000
  have f0 : Fr [110] [] σ0 σ0 := Fr_rf
  have mw := MI_f0 m0
  refine s_X12_layOrder_0 C hN ?_
  have z_42 : (1 : Int32).toInt = 1 := rfl
  have z_43 : (2 : Int32).toInt = 2 := rfl
  exact U4 a1 (1 : Int32) (2 : Int32) σ0 m0 f0 (by omega) (by omega) (by omega) (by omega) (by omega) (by omega) (by first | omega | assumption | rfl) (by first | exact Or.inl ⟨rfl, rfl⟩ | (rw [show v5.toInt = x3.toInt + 1 from by omega, uv4]; exact fk1)) (by first | omega | assumption | rfl) (by first | omega | assumption | rfl) (by omega)
set_option maxRecDepth 100000 in
set_option maxHeartbeats 4000000 in
theorem k_X12_order {l : Launch} {V : Vx} {a1 : Int32} {a2 : Int32} {σ0 : Sg} {Qk : Int32 → Sg → Prop} (m0 : MI σ0) (pre0 : (gi σ0 74 1).toInt ≤ 9999) (h9ret : ∀ (r : Int32) (σ' : Sg), MI σ' → Fr [74, 105, 106, 107, 108, 110, 129, 131, 132, 134, 135, 136, 137, 138, 139] [1, 30, 33] σ0 σ' → ((gi σ' 74 1).toInt = (gi σ0 74 1).toInt) → (CD σ0 σ' 110 110 6) → Qk r σ') : K_X12_order l V a1 a2 σ0 Qk := by
  refine e_X12_order (fun M hl hV hN C => ?_)
  subst hl
  subst hV
  have T : ∀ n : Nat, (∀ (x1 : Int32) (x2 : Int32) (x3 : Int32) (σ : Sg), MI σ → Fr [74, 105, 106, 107, 108, 110, 129, 131, 132, 134, 135, 136, 137, 138, 139] [1, 30, 33] σ0 σ → (1 ≤ x1.toInt) → (x1.toInt ≤ 12) → (-1 ≤ x2.toInt) → (x2.toInt ≤ 4) → (0 ≤ x3.toInt) → (x3.toInt ≤ 6) → ((gi σ 74 1).toInt = (gi σ0 74 1).toInt) → (CD σ0 σ 110 110 6) → (CD σ0 σ 138 110 x3.toInt) → ((gi σ 74 0).toInt ≤ 5) → (7 - x3.toInt).toNat + 5000 < n → PS M 39 [(0, .ref 74), (1, .int x1), (2, .int x2), (3, .int x3)] [] σ (0, 0)) ∧ (∀ (x1 : Int32) (x2 : Int32) (x3 : Int32) (x4 : Int32) (σ : Sg), MI σ → Fr [74, 105, 106, 107, 108, 110, 129, 131, 132, 134, 135, 136, 137, 138, 139] [1, 30, 33] σ0 σ → (1 ≤ x1.toInt) → (x1.toInt ≤ 12) → (-1 ≤ x2.toInt) → (x2.toInt ≤ 4) → (0 ≤ x4.toInt) → (x4.toInt ≤ 120) → ((gi σ 74 1).toInt = (gi σ0 74 1).toInt) → (CD σ0 σ 138 110 6) → ((gi σ 74 0).toInt ≤ 5) → (130 - x4.toInt).toNat * 20 + 15 < n → PS M 68 [(0, .ref 74), (1, .int x1), (2, .int x2), (3, .int x3), (4, .int x4)] [] σ (0, 0)) ∧ (∀ (x2 : Int32) (x3 : Int32) (x4 : Int32) (σ : Sg), MI σ → Fr [74, 105, 106, 107, 108, 110, 129, 131, 132, 134, 135, 136, 137, 138, 139] [1, 30, 33] σ0 σ → (-1 ≤ x2.toInt) → (x2.toInt ≤ 4) → (0 ≤ x4.toInt) → (x4.toInt ≤ 6) → ((gi σ 74 1).toInt = (gi σ0 74 1).toInt) → (CD σ0 σ 138 110 6) → (CD σ0 σ 110 110 x4.toInt) → (7 - x4.toInt).toNat < n → PS M 135 [(0, .ref 74), (2, .int x2), (3, .int x3), (4, .int x4)] [] σ (0, 0)) ∧ (∀ (x1 : Int32) (x2 : Int32) (x3 : Int32) (x4 : Int32) (x6 : Int32) (σ : Sg), MI σ → Fr [74, 105, 106, 107, 108, 110, 129, 131, 132, 134, 135, 136, 137, 138, 139] [1, 30, 33] σ0 σ → (1 ≤ x1.toInt) → (x1.toInt ≤ 12) → (-1 ≤ x2.toInt) → (x2.toInt ≤ 4) → (0 ≤ x4.toInt) → (x4.toInt ≤ 119) → (0 ≤ x6.toInt) → (x6.toInt ≤ 6) → ((gi σ 74 1).toInt = (gi σ0 74 1).toInt) → (CD σ0 σ 138 110 6) → ((gi σ 74 0).toInt ≤ 5) → (130 - x4.toInt).toNat * 20 + (7 - x6.toInt).toNat < n → PS M 99 [(0, .ref 74), (1, .int x1), (2, .int x2), (3, .int x3), (4, .int x4), (6, .int x6)] [] σ (0, 0)) := by
    intro n
    induction n with
    | zero => exact ⟨fun _ _ _ _ _ _ _ _ _ _ _ _ _ _ _ _ h8 => absurd h8 (Nat.not_lt_zero _), fun _ _ _ _ _ _ _ _ _ _ _ _ _ _ _ _ h8 => absurd h8 (Nat.not_lt_zero _), fun _ _ _ _ _ _ _ _ _ _ _ _ _ h8 => absurd h8 (Nat.not_lt_zero _), fun _ _ _ _ _ _ _ _ _ _ _ _ _ _ _ _ _ _ _ h8 => absurd h8 (Nat.not_lt_zero _)⟩
    | succ n ih =>
      obtain ⟨ih39, ih68, ih135, ih99⟩ := ih
      refine ⟨?_, ?_, ?_, ?_⟩
      · intro x1 x2 x3 σ mσ fσ lx1 ux1 lx2 ux2 lx3 ux3 i0 i1 i2 i3 hmu
        refine s_X12_order_39 C hN ?_
        refine ⟨?_, ?_⟩
        · intro q_1
          have b_2 : (6 : Int) ≤ x3.toInt := Int32.le_iff_toInt_le.mp q_1
          have z_3 : (-1 : Int32).toInt = -1 := rfl
          have z_4 : (0 : Int32).toInt = 0 := rfl
          exact ih68 x1 x2 (-1 : Int32) (0 : Int32) σ mσ fσ (by omega) (by omega) (by omega) (by omega) (by omega) (by omega) (by first | omega | assumption | rfl) (by first | assumption | exact CD_le i2 (by omega)) (by first | omega | assumption | rfl) (by omega)
        · intro q_1
          have b_5 : ¬ (6 : Int) ≤ x3.toInt := fun h9 => q_1 (Int32.le_iff_toInt_le.mpr h9)
          have hv_6 : vp_in x3 6 := vp_in_iff.mpr ⟨by omega, by omega⟩
          refine ⟨hv_6, ?_⟩
          refine ⟨hv_6, ?_⟩
          intro σ4 eσ4
          have t_7 := MI_a110 mσ hv_6
          have mσ4 : MI σ4 := by rw [eσ4]; exact MIs_a138 mσ (by omega) (by omega)
          have fσ4 : Fr [74, 105, 106, 107, 108, 110, 129, 131, 132, 134, 135, 136, 137, 138, 139] [1, 30, 33] σ0 σ4 := by rw [eσ4]; exact Fr_si fσ (by decide) (fun h9 => absurd h9 (by decide))
          have k_8 : (gi σ4 74 0).toInt = (gi σ 74 0).toInt := by rw [eσ4]; exact congrArg Int32.toInt (gi_si_ne (Or.inl (by decide)))
          have k_9 : (gi σ4 74 1).toInt = (gi σ 74 1).toInt := by rw [eσ4]; exact congrArg Int32.toInt (gi_si_ne (Or.inl (by decide)))
          intro v5 ev5
          have t_10 : (x3 + (1 : Int32)).toInt = x3.toInt + 1 := i_add (x := x3) (y := (1 : Int32)) (by show (_ : Int) ≤ x3.toInt + 1; omega) (by show x3.toInt + 1 ≤ (_ : Int); omega)
          have t_11 : v5.toInt = (x3 + (1 : Int32)).toInt := congrArg Int32.toInt ev5
          exact ih39 x1 x2 v5 σ4 mσ4 fσ4 (by omega) (by omega) (by omega) (by omega) (by omega) (by omega) (by first | omega | assumption | rfl) (by first | exact CD_rf | (rw [eσ4]; exact CD_st i1 (by decide))) (by first | exact CD_0 (Int.le_refl 0) | (rw [show v5.toInt = x3.toInt + 1 from by omega, eσ4]; exact CD_step i2 i1 (by omega) (by omega))) (by first | omega | assumption | rfl) (by omega)
      · intro x1 x2 x3 x4 σ mσ fσ lx1 ux1 lx2 ux2 lx4 ux4 i0 i1 i2 hmu
        refine s_X12_order_68 C hN ?_
        refine k_X12_layOrder mσ (by omega) (by omega) (by first | omega | assumption | rfl) (fun r2 σ1 mσ1 cσ1 plσ1 phσ1 (pσ1_0 : (r2.toInt = 1 ∧ x4.toInt ≤ 119) ∨ r2.toInt = 0) => ?_)
        have fσ1 : Fr [74, 105, 106, 107, 108, 110, 129, 131, 132, 134, 135, 136, 137, 138, 139] [1, 30, 33] σ0 σ1 := Fr_tr fσ cσ1 (by decide) (by decide)
        have k_12 : (gi σ1 74 0).toInt = (gi σ 74 0).toInt := congrArg Int32.toInt (cσ1.2.1 0 (by decide))
        have k_13 : (gi σ1 74 1).toInt = (gi σ 74 1).toInt := congrArg Int32.toInt (cσ1.2.1 1 (by decide))
        try have hC9 : CD σ0 σ1 138 110 (6) := CD_fr (by assumption) cσ1 (by decide)
        refine ⟨?_, ?_⟩
        · intro q_14
          have b_15 : r2.toInt = 0 := congrArg Int32.toInt q_14
          have z_16 : (0 : Int32).toInt = 0 := rfl
          exact ih135 x2 x3 (0 : Int32) σ1 mσ1 fσ1 (by omega) (by omega) (by omega) (by omega) (by first | omega | assumption | rfl) (by first | assumption | (rw [eσ7]; exact CD_st i1 (by decide))) (by first | exact CD_0 (Int.le_refl 0) | (rw [show v8.toInt = x4.toInt + 1 from by omega, eσ7]; exact CD_step i2 i1 (by omega) (by omega))) (by omega)
        · intro q_14
          have b_17 : ¬ r2.toInt = 0 := fun h9 => q_14 (Int32.toInt_inj.mp h9)
          refine k_X12_fromTheStart mσ1 (by omega) (by omega) (by first | omega | assumption | rfl) (fun r5 σ4 mσ4 cσ4 (pσ4_0 : (gi σ4 74 1).toInt = (gi σ1 74 1).toInt) => ?_)
          have fσ4 : Fr [74, 105, 106, 107, 108, 110, 129, 131, 132, 134, 135, 136, 137, 138, 139] [1, 30, 33] σ0 σ4 := Fr_tr fσ1 cσ4 (by decide) (by decide)
          have k_18 : (gi σ4 74 0).toInt = (gi σ1 74 0).toInt := congrArg Int32.toInt (cσ4.2.1 0 (by decide))
          try have hC9 : CD σ0 σ4 138 110 (6) := CD_fr (by assumption) cσ4 (by decide)
          refine ⟨?_, ?_⟩
          · intro q_19
            have w_20 := Int32.toInt_lt x3
            have w_21 := Int32.le_toInt x3
            have w_22 := Int32.toInt_lt r5
            have w_23 := Int32.le_toInt r5
            have b_24 : x3.toInt < r5.toInt := Int32.lt_iff_toInt_lt.mp q_19
            have z_25 : (0 : Int32).toInt = 0 := rfl
            exact ih99 x1 x2 r5 x4 (0 : Int32) σ4 mσ4 fσ4 (by omega) (by omega) (by omega) (by omega) (by omega) (by omega) (by omega) (by omega) (by first | omega | assumption | rfl) (by first | assumption | (rw [eσ5]; exact CD_st i1 (by decide))) (by first | omega | assumption | rfl) (by omega)
          · intro q_19
            have w_26 := Int32.toInt_lt x3
            have w_27 := Int32.le_toInt x3
            have w_28 := Int32.toInt_lt r5
            have w_29 := Int32.le_toInt r5
            have b_30 : ¬ x3.toInt < r5.toInt := fun h9 => q_19 (Int32.lt_iff_toInt_lt.mpr h9)
            intro v7 ev7
            have t_31 : (x4 + (1 : Int32)).toInt = x4.toInt + 1 := i_add (x := x4) (y := (1 : Int32)) (by show (_ : Int) ≤ x4.toInt + 1; omega) (by show x4.toInt + 1 ≤ (_ : Int); omega)
            have t_32 : v7.toInt = (x4 + (1 : Int32)).toInt := congrArg Int32.toInt ev7
            exact ih68 x1 x2 x3 v7 σ4 mσ4 fσ4 (by omega) (by omega) (by omega) (by omega) (by omega) (by omega) (by first | omega | assumption | rfl) (by first | assumption | exact CD_le i2 (by omega)) (by first | omega | assumption | rfl) (by omega)
      · intro x2 x3 x4 σ mσ fσ lx2 ux2 lx4 ux4 i0 i1 i2 hmu
        refine s_X12_order_135 C hN ?_
        refine ⟨?_, ?_⟩
        · intro q_33
          have b_34 : (6 : Int) ≤ x4.toInt := Int32.le_iff_toInt_le.mp q_33
          refine ⟨?_, ?_⟩
          · intro q_35
            have b_36 : (0 : Int) ≤ x2.toInt := Int32.le_iff_toInt_le.mp q_35
            refine ⟨?_, ?_⟩
            · intro q_37
              have t_38 := MI_f0 mσ
              have b_39 : (gi σ 74 0).toInt ≤ x2.toInt := Int32.le_iff_toInt_le.mp q_37
              have z_40 : (-5 : Int32).toInt = -5 := rfl
              exact h9ret (-5 : Int32) σ mσ fσ (by first | omega | assumption | rfl) (by first | exact CD_rf | exact CD_le i2 (by omega))
            · intro q_37
              have t_41 := MI_f0 mσ
              have b_42 : ¬ (gi σ 74 0).toInt ≤ x2.toInt := fun h9 => q_37 (Int32.le_iff_toInt_le.mpr h9)
              have hv_43 : vp_in x2 6 := vp_in_iff.mpr ⟨by omega, by omega⟩
              refine ⟨hv_43, ?_⟩
              have t_44 := MI_a139 mσ hv_43
              exact h9ret (gi σ 139 x2.toNatClampNeg) σ mσ fσ (by first | omega | assumption | rfl) (by first | exact CD_rf | exact CD_le i2 (by omega))
          · intro q_35
            have b_45 : ¬ (0 : Int) ≤ x2.toInt := fun h9 => q_35 (Int32.le_iff_toInt_le.mpr h9)
            exact h9ret x3 σ mσ fσ (by first | omega | assumption | rfl) (by first | exact CD_rf | exact CD_le i2 (by omega))
        · intro q_33
          have b_46 : ¬ (6 : Int) ≤ x4.toInt := fun h9 => q_33 (Int32.le_iff_toInt_le.mpr h9)
          have hv_47 : vp_in x4 6 := vp_in_iff.mpr ⟨by omega, by omega⟩
          refine ⟨hv_47, ?_⟩
          refine ⟨hv_47, ?_⟩
          intro σ7 eσ7
          have t_48 := MI_a138 mσ hv_47
          have mσ7 : MI σ7 := by rw [eσ7]; exact MIs_a110 mσ (by omega) (by omega)
          have fσ7 : Fr [74, 105, 106, 107, 108, 110, 129, 131, 132, 134, 135, 136, 137, 138, 139] [1, 30, 33] σ0 σ7 := by rw [eσ7]; exact Fr_si fσ (by decide) (fun h9 => absurd h9 (by decide))
          have k_49 : (gi σ7 74 0).toInt = (gi σ 74 0).toInt := by rw [eσ7]; exact congrArg Int32.toInt (gi_si_ne (Or.inl (by decide)))
          have k_50 : (gi σ7 74 1).toInt = (gi σ 74 1).toInt := by rw [eσ7]; exact congrArg Int32.toInt (gi_si_ne (Or.inl (by decide)))
          intro v8 ev8
          have t_51 : (x4 + (1 : Int32)).toInt = x4.toInt + 1 := i_add (x := x4) (y := (1 : Int32)) (by show (_ : Int) ≤ x4.toInt + 1; omega) (by show x4.toInt + 1 ≤ (_ : Int); omega)
          have t_52 : v8.toInt = (x4 + (1 : Int32)).toInt := congrArg Int32.toInt ev8
          exact ih135 x2 x3 v8 σ7 mσ7 fσ7 (by omega) (by omega) (by omega) (by omega) (by first | omega | assumption | rfl) (by first | assumption | (rw [eσ7]; exact CD_st i1 (by decide))) (by first | exact CD_0 (Int.le_refl 0) | (rw [show v8.toInt = x4.toInt + 1 from by omega, eσ7]; exact CD_step i2 i1 (by omega) (by omega))) (by omega)
      · intro x1 x2 x3 x4 x6 σ mσ fσ lx1 ux1 lx2 ux2 lx4 ux4 lx6 ux6 i0 i1 i2 hmu
        refine s_X12_order_99 C hN ?_
        refine ⟨?_, ?_⟩
        · intro q_53
          have b_54 : (6 : Int) ≤ x6.toInt := Int32.le_iff_toInt_le.mp q_53
          intro v2 ev2
          have t_55 : (x4 + (1 : Int32)).toInt = x4.toInt + 1 := i_add (x := x4) (y := (1 : Int32)) (by show (_ : Int) ≤ x4.toInt + 1; omega) (by show x4.toInt + 1 ≤ (_ : Int); omega)
          have t_56 : v2.toInt = (x4 + (1 : Int32)).toInt := congrArg Int32.toInt ev2
          exact ih68 x1 x2 x3 v2 σ mσ fσ (by omega) (by omega) (by omega) (by omega) (by omega) (by omega) (by first | omega | assumption | rfl) (by first | assumption | exact CD_le i2 (by omega)) (by first | omega | assumption | rfl) (by omega)
        · intro q_53
          have b_57 : ¬ (6 : Int) ≤ x6.toInt := fun h9 => q_53 (Int32.le_iff_toInt_le.mpr h9)
          have hv_58 : vp_in x6 6 := vp_in_iff.mpr ⟨by omega, by omega⟩
          refine ⟨hv_58, ?_⟩
          refine ⟨hv_58, ?_⟩
          intro σ5 eσ5
          have t_59 := MI_a110 mσ hv_58
          have mσ5 : MI σ5 := by rw [eσ5]; exact MIs_a139 mσ (by omega) (by omega)
          have fσ5 : Fr [74, 105, 106, 107, 108, 110, 129, 131, 132, 134, 135, 136, 137, 138, 139] [1, 30, 33] σ0 σ5 := by rw [eσ5]; exact Fr_si fσ (by decide) (fun h9 => absurd h9 (by decide))
          have k_60 : (gi σ5 74 0).toInt = (gi σ 74 0).toInt := by rw [eσ5]; exact congrArg Int32.toInt (gi_si_ne (Or.inl (by decide)))
          have k_61 : (gi σ5 74 1).toInt = (gi σ 74 1).toInt := by rw [eσ5]; exact congrArg Int32.toInt (gi_si_ne (Or.inl (by decide)))
          intro v6 ev6
          have t_62 : (x6 + (1 : Int32)).toInt = x6.toInt + 1 := i_add (x := x6) (y := (1 : Int32)) (by show (_ : Int) ≤ x6.toInt + 1; omega) (by show x6.toInt + 1 ≤ (_ : Int); omega)
          have t_63 : v6.toInt = (x6 + (1 : Int32)).toInt := congrArg Int32.toInt ev6
          exact ih99 x1 x2 x3 x4 v6 σ5 mσ5 fσ5 (by omega) (by omega) (by omega) (by omega) (by omega) (by omega) (by omega) (by omega) (by first | omega | assumption | rfl) (by first | assumption | (rw [eσ5]; exact CD_st i1 (by decide))) (by first | omega | assumption | rfl) (by omega)
  obtain ⟨U39, U68, U135, U99⟩ := T 9000
  have f0 : Fr [74, 105, 106, 107, 108, 110, 129, 131, 132, 134, 135, 136, 137, 138, 139] [1, 30, 33] σ0 σ0 := Fr_rf
  have mw := MI_f0 m0
  refine s_X12_order_0 C hN ?_
  refine k_X12_in m0  (fun r2 σ1 mσ1 cσ1 plσ1 phσ1 (pσ1_0 : (r2.toInt = 1 ∧ ((-1) : Int) ≤ a2.toInt ∧ a2.toInt ≤ (4 : Int)) ∨ (r2.toInt = 0 ∧ (a2.toInt < ((-1) : Int) ∨ (4 : Int) < a2.toInt))) => ?_)
  obtain rfl := Fr_nil cσ1
  refine ⟨?_, ?_⟩
  · intro q_64
    have b_65 : ¬ r2.toInt = 0 := fun h9 => q_64 (Int32.toInt_inj.mp h9)
    refine k_X12_in m0  (fun r5 σ4 mσ4 cσ4 plσ4 phσ4 (pσ4_0 : (r5.toInt = 1 ∧ (1 : Int) ≤ a1.toInt ∧ a1.toInt ≤ (12 : Int)) ∨ (r5.toInt = 0 ∧ (a1.toInt < (1 : Int) ∨ (12 : Int) < a1.toInt))) => ?_)
    obtain rfl := Fr_nil cσ4
    refine ⟨?_, ?_⟩
    · intro q_66
      have b_67 : ¬ r5.toInt = 0 := fun h9 => q_66 (Int32.toInt_inj.mp h9)
      refine ⟨?_, ?_⟩
      · intro q_68
        have t_69 := MI_f0 m0
        have b_70 : (gi σ0 74 0).toInt ≤ 5 := Int32.le_iff_toInt_le.mp q_68
        have z_71 : (0 : Int32).toInt = 0 := rfl
        exact U39 a1 a2 (0 : Int32) σ0 m0 f0 (by omega) (by omega) (by omega) (by omega) (by omega) (by omega) (by first | omega | assumption | rfl) (by first | exact CD_rf | (rw [eσ4]; exact CD_st i1 (by decide))) (by first | exact CD_0 (Int.le_refl 0) | (rw [show v5.toInt = x3.toInt + 1 from by omega, eσ4]; exact CD_step i2 i1 (by omega) (by omega))) (by first | omega | assumption | rfl) (by omega)
      · intro q_68
        have t_72 := MI_f0 m0
        have b_73 : ¬ (gi σ0 74 0).toInt ≤ 5 := fun h9 => q_68 (Int32.le_iff_toInt_le.mpr h9)
        have z_74 : (-9 : Int32).toInt = -9 := rfl
        exact h9ret (-9 : Int32) σ0 m0 f0 (by first | omega | assumption | rfl) (by first | exact CD_rf | exact CD_le i2 (by omega))
    · intro q_66
      have b_75 : r5.toInt = 0 := congrArg Int32.toInt q_66
      have z_76 : (-2 : Int32).toInt = -2 := rfl
      exact h9ret (-2 : Int32) σ0 m0 f0 (by first | omega | assumption | rfl) (by first | exact CD_rf | exact CD_le i2 (by omega))
  · intro q_64
    have b_77 : r2.toInt = 0 := congrArg Int32.toInt q_64
    have z_78 : (-1 : Int32).toInt = -1 := rfl
    exact h9ret (-1 : Int32) σ0 m0 f0 (by first | omega | assumption | rfl) (by first | exact CD_rf | exact CD_le i2 (by omega))
