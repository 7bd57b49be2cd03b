/-! the model's clauses, its text -/
noncomputable def FXt (σ σ' : Sg) : Prop := FX (fun _ => False) (fun id k => id = 74 ∧ (k = 14 ∨ k = 15)) σ σ'
theorem FXt_rf {σ : Sg} : FXt σ σ := FX_rf
theorem FXt_tr {σ σ1 σ2 : Sg} (f : FXt σ σ1) (g : FXt σ1 σ2) : FXt σ σ2 := FX_tr f g (fun _ h => h) (fun _ _ h => Or.inr h)
theorem nextT {nx e b p σ} (hx : NXo nx e) (h : RtM nx e b p σ) : ∃ r : Int32, F_X12_next σ = (r, σ) ∧ r.toInt = nx p := by
  unfold F_X12_next
  have a := h.at_
  have b := h.en
  by_cases q : (gi σ 74 13) ≤ (gi σ 74 14)
  · have q' := Int32.le_iff_toInt_le.mp q
    rw [if_pos q]
    exact ⟨_, rfl, (hx.hn p (by omega)).symm⟩
  · have q' : ¬ (gi σ 74 13).toInt ≤ (gi σ 74 14).toInt := fun h9 => q (Int32.le_iff_toInt_le.mpr h9)
    rw [if_neg q]
    have ec := cl_eq (x := gi σ 74 14) (by omega)
    exact ⟨_, rfl, by rw [show (gi σ 74 14).toNatClampNeg = p from by omega]; exact h.tx p (by omega)⟩
theorem advT {nx e b p σ} (hx : NXo nx e) (h : RtM nx e b p σ) (hp : p < e) : RtM nx e b (p + 1) (si σ 74 14 ((gi σ 74 14) + (1 : Int32))) ∧ FXt σ (si σ 74 14 ((gi σ 74 14) + (1 : Int32))) := by
  have a := h.at_
  have l := hx.le
  have t1 : ((gi σ 74 14) + (1 : Int32)).toInt = (gi σ 74 14).toInt + 1 := i_add (y := (1 : Int32)) (by show (_ : Int) ≤ (gi σ 74 14).toInt + 1; omega) (by show (gi σ 74 14).toInt + 1 ≤ (_ : Int); omega)
  have bb := h.bb
  refine ⟨⟨?_, ?_, ?_, ?_, hp, by omega⟩, FX_si FX_rf (Or.inr ⟨rfl, Or.inl rfl⟩)⟩
  · rw [gi_si_ne (Or.inr (by decide +kernel))]; exact h.en
  · intro q hq; rw [gi_si_ne (Or.inl (by decide +kernel))]; exact h.tx q hq
  · rw [gi_si_eq, t1]; omega
  · rw [gi_si_ne (Or.inr (by decide +kernel))]; exact h.cn
theorem digitT {nx e b p σ} (hx : NXo nx e) (h : RtM nx e b p σ) : F_X12_isDigit σ = (if dig (nx p) = true then 1 else 0, σ) := by
  obtain ⟨r, e1, e2⟩ := nextT hx h
  unfold F_X12_isDigit F_X12_in
  rw [e1, fb_e]
  have z1 : (48 : Int32).toInt = 48 := rfl
  have z2 : (57 : Int32).toInt = 57 := rfl
  by_cases q1 : r < (48 : Int32)
  · have q1' := Int32.lt_iff_toInt_lt.mp q1
    rw [if_pos q1, if_neg (show ¬ dig (nx p) = true from fun h9 => by have := of_decide_eq_true h9; omega), fb_e]
  · have q1' : ¬ r.toInt < (48 : Int32).toInt := fun h9 => q1 (Int32.lt_iff_toInt_lt.mpr h9)
    rw [if_neg q1]
    by_cases q2 : (57 : Int32) < r
    · have q2' := Int32.lt_iff_toInt_lt.mp q2
      rw [if_pos q2, if_neg (show ¬ dig (nx p) = true from fun h9 => by have := of_decide_eq_true h9; omega), fb_e]
    · have q2' : ¬ (57 : Int32).toInt < r.toInt := fun h9 => q2 (Int32.lt_iff_toInt_lt.mpr h9)
      rw [if_neg q2, if_pos (show dig (nx p) = true from decide_eq_true (by omega)), fb_e]
theorem takesT_t {nx e b p σ} {op : Int32} {c : Int} (hx : NXo nx e) (h : RtM nx e b p σ) (ho : op.toInt = c) (h0 : 0 ≤ c) (q : nx p = c) : F_X12_takes op σ = (1, si σ 74 14 ((gi σ 74 14) + (1 : Int32))) ∧ RtM nx e b (p + 1) (si σ 74 14 ((gi σ 74 14) + (1 : Int32))) ∧ FXt σ (si σ 74 14 ((gi σ 74 14) + (1 : Int32))) := by
  obtain ⟨r, e1, e2⟩ := nextT hx h
  refine ⟨?_, advT hx h (ltC hx q h0)⟩
  unfold F_X12_takes
  rw [e1, fb_e, if_pos (Int32.toInt_inj.mp (by rw [e2, ho, q])), fl_e]
theorem takesT_f {nx e b p σ} {op : Int32} {c : Int} (hx : NXo nx e) (h : RtM nx e b p σ) (ho : op.toInt = c) (q : ¬ nx p = c) : F_X12_takes op σ = (0, σ) := by
  obtain ⟨r, e1, e2⟩ := nextT hx h
  unfold F_X12_takes
  rw [e1, fb_e, if_neg (fun h9 => q (by rw [← e2, h9, ho]))]
theorem digsT {nx e b p σ} {v : Int32} (h : RtM nx e b p σ) : RtM nx e b p (si σ 74 15 v) ∧ FXt σ (si σ 74 15 v) := by
  refine ⟨⟨?_, ?_, ?_, ?_, h.le, h.bb⟩, FX_si FX_rf (Or.inr ⟨rfl, by decide +kernel⟩)⟩
  · rw [gi_si_ne (Or.inr (by decide +kernel))]; exact h.en
  · intro q hq; rw [gi_si_ne (Or.inl (by decide +kernel))]; exact h.tx q hq
  · rw [gi_si_ne (Or.inr (by decide +kernel))]; exact h.at_
  · rw [gi_si_ne (Or.inr (by decide +kernel))]; exact h.cn
theorem digT1 {nx e b p σ} {d : Nat} (hx : NXo nx e) (h : RtM nx e b p σ) (hd : dig (nx p) = true) (h15 : (gi σ 74 15).toInt = (d : Int)) (hd9 : d ≤ 9) (n : Nat) (x1 : Int32) (hx1 : ¬ (2 : Int32) ≤ x1) :
    ∃ σ', LF_X12_takesNumber (n + 1) x1 σ = LF_X12_takesNumber n (x1 + 1) σ' ∧ RtM nx e b (p + 1) σ' ∧ (gi σ' 74 15).toInt = ((10 * d + (nx p - 48).toNat : Nat) : Int) ∧ FXt σ σ' := by
  have b0 := of_decide_eq_true hd
  have hp : p < e := ltC hx rfl (by omega)
  obtain ⟨r, s1, s2⟩ := nextT hx h
  have z48 : (48 : Int32).toInt = 48 := rfl
  have m1 : ((10 : Int32) * (gi σ 74 15)).toInt = 10 * (gi σ 74 15).toInt := i_mull rfl (by omega) (by omega)
  have m2 : (((10 : Int32) * (gi σ 74 15)) + r).toInt = ((10 : Int32) * (gi σ 74 15)).toInt + r.toInt := i_add (by omega) (by omega)
  have m3 : ((((10 : Int32) * (gi σ 74 15)) + r) - (48 : Int32)).toInt = (((10 : Int32) * (gi σ 74 15)) + r).toInt - 48 := i_sub (y := (48 : Int32)) (by show (_ : Int) ≤ (((10 : Int32) * (gi σ 74 15)) + r).toInt - 48; omega) (by show (((10 : Int32) * (gi σ 74 15)) + r).toInt - 48 ≤ (_ : Int); omega)
  obtain ⟨a1, a2⟩ := digsT (v := (((10 : Int32) * (gi σ 74 15)) + r) - (48 : Int32)) h
  obtain ⟨c1, c2⟩ := advT hx a1 hp
  refine ⟨_, ?_, c1, ?_, FXt_tr a2 c2⟩
  · show LB_X12_takesNumber_16 (LF_X12_takesNumber n) x1 σ = _
    unfold LB_X12_takesNumber_16
    rw [if_neg hx1, digitT hx h, if_pos hd, fb_e, if_neg (show ¬ (1 : Int32) = 0 by decide +kernel), s1, fb_e, fl_e, fl_e, fl_e]
  · rw [gi_si_ne (Or.inr (by decide +kernel)), gi_si_eq, m3, m2, m1, h15, s2]
    omega
theorem numT {nx e b p σ} (hx : NXo nx e) (h : RtM nx e b p σ) :
    ((pnum nx p).1 = true → ∃ σ', F_X12_takesNumber σ = (1, σ') ∧ (gi σ' 74 15).toInt = ((pnum nx p).2.2 : Int) ∧ (pnum nx p).2.2 ≤ 99 ∧ RtM nx e b (pnum nx p).2.1 σ' ∧ FXt σ σ' ∧ p + 1 ≤ (pnum nx p).2.1) ∧ ((pnum nx p).1 = false → F_X12_takesNumber σ = (0, σ) ∧ (pnum nx p).2.1 = p) := by
  unfold F_X12_takesNumber
  rw [digitT hx h, fb_e]
  by_cases d0 : dig (nx p) = true
  · have b0 := of_decide_eq_true d0
    rw [if_pos d0, if_neg (show ¬ (1 : Int32) = 0 by decide +kernel), fl_e]
    obtain ⟨a1, a2⟩ := digsT (v := 0) h
    obtain ⟨σ1, e1, c1, c2, c3⟩ := digT1 (d := 0) hx a1 d0 (by rw [gi_si_eq]; rfl) (by decide +kernel) 8 0 (by decide +kernel)
    rw [e1, show (0 : Int32) + 1 = 1 from by decide +kernel]
    by_cases d1 : dig (nx (p + 1)) = true
    · have b1 := of_decide_eq_true d1
      have ep : pnum nx p = (true, p + 2, 10 * (nx p - 48).toNat + (nx (p + 1) - 48).toNat) := by unfold pnum; rw [if_pos d0, if_pos d1]
      obtain ⟨σ2, e2, g1, g2, g3⟩ := digT1 (d := 10 * 0 + (nx p - 48).toNat) hx c1 d1 c2 (by omega) 7 1 (by decide +kernel)
      rw [e2, show (1 : Int32) + 1 = 2 from by decide +kernel, ep]
      have e3 : LF_X12_takesNumber 7 2 σ2 = (1, σ2) := by
        show LB_X12_takesNumber_16 (LF_X12_takesNumber 6) 2 σ2 = _
        unfold LB_X12_takesNumber_16
        rw [if_pos (by decide +kernel)]
      refine ⟨fun _ => ⟨σ2, e3, ?_, ?_, g1, FXt_tr a2 (FXt_tr c3 g3), by show p + 1 ≤ p + 2; omega⟩, fun h9 => by cases h9⟩
      · rw [g2]; show ((10 * (10 * 0 + (nx p - 48).toNat) + (nx (p + 1) - 48).toNat : Nat) : Int) = ((10 * (nx p - 48).toNat + (nx (p + 1) - 48).toNat : Nat) : Int); omega
      · show 10 * (nx p - 48).toNat + (nx (p + 1) - 48).toNat ≤ 99; omega
    · have ep : pnum nx p = (true, p + 1, (nx p - 48).toNat) := by unfold pnum; rw [if_pos d0, if_neg d1]
      have e3 : LF_X12_takesNumber 8 1 σ1 = (1, σ1) := by
        show LB_X12_takesNumber_16 (LF_X12_takesNumber 7) 1 σ1 = _
        unfold LB_X12_takesNumber_16
        rw [if_neg (by decide +kernel), digitT hx c1, if_neg d1, fb_e, if_pos rfl]
      rw [ep]
      refine ⟨fun _ => ⟨σ1, e3, ?_, ?_, c1, FXt_tr a2 c3, Nat.le_refl _⟩, fun h9 => by cases h9⟩
      · rw [c2]; show ((10 * 0 + (nx p - 48).toNat : Nat) : Int) = (((nx p - 48).toNat : Nat) : Int); omega
      · show (nx p - 48).toNat ≤ 99; omega
  · have ep : pnum nx p = (false, p, 0) := by unfold pnum; rw [if_neg d0]
    rw [ep, if_neg d0, if_pos rfl]
    exact ⟨fun h9 => (by cases h9), fun _ => ⟨rfl, rfl⟩⟩
noncomputable def ltrs : List Int := [102, 97, 115, 116, 115, 108, 111, 119, 103, 97, 112, 116, 105, 114, 101, 108, 111, 110, 103]
/-- the model's letters -/
noncomputable def LTM (σ : Sg) : Prop := ∀ j c, ltrs[j]? = some c → (gi σ 127 j).toInt = c
theorem ltrs_ge : ∀ j, j < 19 → 0 ≤ ltrs.getD j 0 := by decide +kernel
theorem ltrs_0 {j : Nat} {c : Int} (h : ltrs[j]? = some c) : 0 ≤ c := by
  have hj : j < 19 := (List.getElem?_eq_some_iff.mp h).1
  have := ltrs_ge j hj
  rw [List.getD_eq_getElem?_getD, h] at this
  exact this
theorem LTM_eq {σ σ' : Sg} (h : ∀ k, gi σ' 127 k = gi σ 127 k) (q : LTM σ) : LTM σ' := fun j c hj => by rw [h]; exact q j c hj
theorem wordT {nx e b} {x1 x2 : Int32} {a z : Nat} (hx : NXo nx e) (h1 : x1.toInt = (a : Int)) (h2 : x2.toInt = (z : Int)) (ha : a ≤ 100) (hz : z ≤ 100) : ∀ (l : List Int) n p σ (x3 : Int32) (i : Nat), RtM nx e b p σ → LTM σ → x3.toInt = (i : Int) → i + l.length = z → l.length < n → (∀ j c, l[j]? = some c → ltrs[a + i + j]? = some c) →
    ((pmatch nx (l ++ [32]) p).1 = true → ∃ σ', LF_X12_takesWord n x1 x2 x3 σ = (1, σ') ∧ RtM nx e b (pmatch nx (l ++ [32]) p).2 σ' ∧ FXt σ σ') ∧ ((pmatch nx (l ++ [32]) p).1 = false → ∃ σ', LF_X12_takesWord n x1 x2 x3 σ = (0, σ') ∧ (gi σ' 74 14).toInt = ((pmatch nx (l ++ [32]) p).2 : Int) ∧ FXt σ σ') := by
  intro l
  induction l with
  | nil =>
    intro n p σ x3 i h hL h3 hl hn _
    obtain ⟨n, rfl⟩ : ∃ k, n = k + 1 := ⟨n - 1, by have : ([] : List Int).length = 0 := rfl; omega⟩
    have hl : i + 0 = z := hl
    have E : LF_X12_takesWord (n + 1) x1 x2 x3 σ = F_X12_takes (32 : Int32) σ := by
      show LB_X12_takesWord_2 (LF_X12_takesWord n) x1 x2 x3 σ = _
      unfold LB_X12_takesWord_2
      rw [if_pos (Int32.le_iff_toInt_le.mpr (by omega))]
      rfl
    rw [E]
    show ((if nx p = 32 then pmatch nx [] (p + 1) else (false, p)).1 = true → _) ∧ _
    by_cases q : nx p = 32
    · obtain ⟨t1, t2, t3⟩ := takesT_t hx h (op := 32) rfl (by decide +kernel) q
      have ep : pmatch nx ([] ++ [32]) p = (true, p + 1) := if_pos q
      rw [t1, ep]
      exact ⟨fun _ => ⟨_, rfl, t2, t3⟩, fun h9 => by cases h9⟩
    · have ep : pmatch nx ([] ++ [32]) p = (false, p) := if_neg q
      rw [takesT_f hx h (op := 32) rfl q, ep, if_neg q]
      exact ⟨fun h9 => (by cases h9), fun _ => ⟨σ, rfl, h.at_, FXt_rf⟩⟩
  | cons c l ih =>
    intro n p σ x3 i h hL h3 hl hn hb
    rw [List.length_cons] at hl hn
    obtain ⟨n, rfl⟩ : ∃ k, n = k + 1 := ⟨n - 1, by omega⟩
    have b1 : ltrs[a + i]? = some c := hb 0 c rfl
    have b2 := hL _ _ b1
    have s1 : (x1 + x3).toInt = x1.toInt + x3.toInt := i_add (by omega) (by omega)
    have ec := cl_eq (x := x1 + x3) (by omega)
    have E : LF_X12_takesWord (n + 1) x1 x2 x3 σ = fb (F_X12_takes (gi σ 127 (a + i)) σ) (fun r6 σ5 => (if r6 = 0 then ((0 : Int32), σ5) else fl (x3 + 1) (fun v8 => LF_X12_takesWord n x1 x2 v8 σ5))) := by
      show LB_X12_takesWord_2 (LF_X12_takesWord n) x1 x2 x3 σ = _
      unfold LB_X12_takesWord_2
      rw [if_neg (fun h9 => by have := Int32.le_iff_toInt_le.mp h9; omega), show (x1 + x3).toNatClampNeg = a + i from by omega]
    rw [E]
    by_cases q : nx p = c
    · have ep : pmatch nx (c :: l ++ [32]) p = pmatch nx (l ++ [32]) (p + 1) := if_pos q
      obtain ⟨t1, t2, t3⟩ := takesT_t hx h b2 (ltrs_0 b1) q
      rw [ep, t1, fb_e, if_neg (show ¬ (1 : Int32) = 0 by decide +kernel), fl_e]
      have t9 : (x3 + (1 : Int32)).toInt = x3.toInt + 1 := i_add (y := (1 : Int32)) (by show (_ : Int) ≤ x3.toInt + 1; omega) (by show x3.toInt + 1 ≤ (_ : Int); omega)
      have k := ih n (p + 1) _ (x3 + 1) (i + 1) t2 (LTM_eq (fun k => gi_si_ne (Or.inl (by decide +kernel))) hL) (by rw [t9]; omega) (by omega) (by omega) (fun j c' hj => by
        have := hb (j + 1) c' hj
        rw [show a + i + (j + 1) = a + (i + 1) + j from by omega] at this
        exact this)
      refine ⟨fun h9 => ?_, fun h9 => ?_⟩
      · obtain ⟨σ', k1, k2, k3⟩ := k.1 h9
        exact ⟨σ', k1, k2, FXt_tr t3 k3⟩
      · obtain ⟨σ', k1, k2, k3⟩ := k.2 h9
        exact ⟨σ', k1, k2, FXt_tr t3 k3⟩
    · have ep : pmatch nx (c :: l ++ [32]) p = (false, p) := if_neg q
      rw [ep, takesT_f hx h b2 q, fb_e, if_pos rfl]
      exact ⟨fun h9 => (by cases h9), fun _ => ⟨σ, rfl, h.at_, FXt_rf⟩⟩
/-- what a clause c leaves alone in the model -/
noncomputable def FXk (b c : Nat) (σ σ' : Sg) : Prop := FX (fun id => id = 123) (fun id k => (id = 74 ∧ (k = 14 ∨ k = 15 ∨ k = 24 ∨ k = 25 ∨ k = 26)) ∨ (id = 122 ∧ b ≤ k) ∨ ((id = 118 ∨ id = 119 ∨ id = 120 ∨ id = 121) ∧ k = c)) σ σ'
theorem FXk_tr {b c : Nat} {σ σ1 σ2 : Sg} (f : FXk b c σ σ1) (g : FXk b c σ1 σ2) : FXk b c σ σ2 := FX_tr f g (fun _ h => h) (fun _ _ h => Or.inr h)
theorem FXk_t {b c : Nat} {σ σ1 : Sg} (f : FXt σ σ1) : FXk b c σ σ1 := FX_tr FX_rf f (fun _ h => h.elim) (fun _ _ h => Or.inr (Or.inl ⟨h.1, h.2.elim Or.inl (fun h => Or.inr (Or.inl h))⟩))
theorem FXk_f {b c : Nat} {σ σ1 : Sg} (f : FXf b c σ σ1) : FXk b c σ σ1 := FX_tr FX_rf f (fun _ h => h) (fun _ _ h => Or.inr (h.elim Or.inl (fun h => h.elim (fun h => Or.inr (Or.inl h)) (fun h => h.elim (fun h => Or.inr (Or.inr ⟨Or.inr (Or.inr (Or.inr h.1)), h.2⟩)) (fun h => Or.inr (Or.inr ⟨Or.inr (Or.inr (Or.inl h.1)), h.2⟩))))))
theorem RtM_row {nx e b p σ} {a k : Nat} {v : Int32} (ha : a ≠ 74 ∧ a ≠ 116) (h : RtM nx e b p σ) : RtM nx e b p (si σ a k v) := by
  refine ⟨?_, ?_, ?_, ?_, h.le, h.bb⟩
  · rw [gi_si_ne (Or.inl (Ne.symm ha.1))]; exact h.en
  · intro q hq; rw [gi_si_ne (Or.inl (Ne.symm ha.2))]; exact h.tx q hq
  · rw [gi_si_ne (Or.inl (Ne.symm ha.1))]; exact h.at_
  · rw [gi_si_ne (Or.inl (Ne.symm ha.1))]; exact h.cn
theorem headM {nx e b p σ} {a1 : Int32} (hx : NXo nx e) (h : RtM nx e b p σ) (hL : LTM σ) :
    (wrd (nx p) = none → ∃ σ', F_X12_takesHead a1 σ = (0, σ') ∧ (gi σ' 74 14).toInt = (p : Int) ∧ FXk b a1.toNatClampNeg σ σ')
    ∧ (∀ w, wrd (nx p) = some w → ((pmatch nx (wtx w) p).1 = true → ∃ σ', F_X12_takesHead a1 σ = (1, σ') ∧ RtM nx e b (pmatch nx (wtx w) p).2 σ' ∧ (gi σ' 118 a1.toNatClampNeg).toInt = (w : Int) ∧ FXk b a1.toNatClampNeg σ σ') ∧ ((pmatch nx (wtx w) p).1 = false → ∃ σ', F_X12_takesHead a1 σ = (0, σ') ∧ (gi σ' 74 14).toInt = ((pmatch nx (wtx w) p).2 : Int) ∧ FXk b a1.toNatClampNeg σ σ')) := by
  obtain ⟨r, e1, e2⟩ := nextT hx h
  -- one head: the word's number is noted, then its letters
  have one : ∀ (v x1 x2 : Int32) (a z w : Nat) (l : List Int), x1.toInt = (a : Int) → x2.toInt = (z : Int) → a ≤ 100 → z ≤ 100 → l.length = z → z < 9 → (∀ j c, l[j]? = some c → ltrs[a + j]? = some c) → v.toInt = (w : Int) → ∀ q, q = pmatch nx (l ++ [32]) p →
      (q.1 = true → ∃ σ', fb (F_X12_takesWord x1 x2 (si σ 118 a1.toNatClampNeg v)) (fun r σ => (r, σ)) = ((1 : Int32), σ') ∧ RtM nx e b q.2 σ' ∧ (gi σ' 118 a1.toNatClampNeg).toInt = (w : Int) ∧ FXk b a1.toNatClampNeg σ σ')
      ∧ (q.1 = false → ∃ σ', fb (F_X12_takesWord x1 x2 (si σ 118 a1.toNatClampNeg v)) (fun r σ => (r, σ)) = ((0 : Int32), σ') ∧ (gi σ' 74 14).toInt = (q.2 : Int) ∧ FXk b a1.toNatClampNeg σ σ') := by
    intro v x1 x2 a z w l h1 h2 h3 h4 h5 h6 h7 h8 q hq
    have k := wordT hx h1 h2 h3 h4 l 9 p (si σ 118 a1.toNatClampNeg v) (0 : Int32) 0 (RtM_row ⟨by decide +kernel, by decide +kernel⟩ h) (LTM_eq (fun k => gi_si_ne (Or.inl (by decide +kernel))) hL) rfl (by omega) (by omega) (fun j c hj => by rw [Nat.add_zero]; exact h7 j c hj)
    rw [← hq] at k
    have f0 : FXk b a1.toNatClampNeg σ (si σ 118 a1.toNatClampNeg v) := FX_si FX_rf (Or.inr (Or.inr (Or.inr ⟨Or.inl rfl, rfl⟩)))
    unfold F_X12_takesWord
    refine ⟨fun h9 => ?_, fun h9 => ?_⟩
    · obtain ⟨σ', k1, k2, k3⟩ := k.1 h9
      refine ⟨σ', by rw [k1, fb_e], k2, ?_, FXk_tr f0 (FXk_t k3)⟩
      rw [FX_i k3 (fun h => h) (fun h => absurd h.1 (by decide +kernel)), gi_si_eq]; exact h8
    · obtain ⟨σ', k1, k2, k3⟩ := k.2 h9
      exact ⟨σ', by rw [k1, fb_e], k2, FXk_tr f0 (FXk_t k3)⟩
  unfold F_X12_takesHead
  rw [e1, fb_e, e2]
  refine ⟨fun hw => ?_, fun w hw => ?_⟩
  · unfold wrd at hw
    have c1 : ¬ nx p = 102 := fun h9 => by rw [if_pos h9] at hw; cases hw
    rw [if_neg c1] at hw
    have c2 : ¬ nx p = 115 := fun h9 => by rw [if_pos h9] at hw; cases hw
    rw [if_neg c2] at hw
    have c3 : ¬ nx p = 103 := fun h9 => by rw [if_pos h9] at hw; cases hw
    rw [if_neg c3] at hw
    have c4 : ¬ nx p = 116 := fun h9 => by rw [if_pos h9] at hw; cases hw
    rw [if_neg c4] at hw
    have c5 : ¬ nx p = 108 := fun h9 => by rw [if_pos h9] at hw; cases hw
    rw [if_neg c1, if_neg c3, if_neg c2, if_neg c4, fl_e]
    have ep : pmatch nx ([108, 111, 110, 103] ++ [32]) p = (false, p) := if_neg c5
    obtain ⟨σ', k1, k2, k3⟩ := (one 4 15 4 15 4 4 [108, 111, 110, 103] rfl rfl (by decide +kernel) (by decide +kernel) rfl (by decide +kernel) (by intro j c hj; match j, hj with | 0, hj => exact hj | 1, hj => exact hj | 2, hj => exact hj | 3, hj => exact hj) rfl _ rfl).2 (by rw [ep])
    rw [ep] at k2
    exact ⟨σ', k1, k2, k3⟩
  · unfold wrd at hw
    by_cases c1 : nx p = 102
    · rw [if_pos c1] at hw; cases hw
      rw [if_pos c1, fl_e]
      exact one 0 0 4 0 4 0 [102, 97, 115, 116] rfl rfl (by decide +kernel) (by decide +kernel) rfl (by decide +kernel) (by intro j c hj; match j, hj with | 0, hj => exact hj | 1, hj => exact hj | 2, hj => exact hj | 3, hj => exact hj) rfl _ rfl
    rw [if_neg c1] at hw
    by_cases c2 : nx p = 115
    · rw [if_pos c2] at hw; cases hw
      rw [if_neg c1, if_neg (by omega), if_pos c2, fl_e]
      exact one 1 4 4 4 4 1 [115, 108, 111, 119] rfl rfl (by decide +kernel) (by decide +kernel) rfl (by decide +kernel) (by intro j c hj; match j, hj with | 0, hj => exact hj | 1, hj => exact hj | 2, hj => exact hj | 3, hj => exact hj) rfl _ rfl
    rw [if_neg c2] at hw
    by_cases c3 : nx p = 103
    · rw [if_pos c3] at hw; cases hw
      rw [if_neg c1, if_pos c3, fl_e]
      exact one 2 8 3 8 3 2 [103, 97, 112] rfl rfl (by decide +kernel) (by decide +kernel) rfl (by decide +kernel) (by intro j c hj; match j, hj with | 0, hj => exact hj | 1, hj => exact hj | 2, hj => exact hj) rfl _ rfl
    rw [if_neg c3] at hw
    by_cases c4 : nx p = 116
    · rw [if_pos c4] at hw; cases hw
      rw [if_neg c1, if_neg c3, if_neg c2, if_pos c4, fl_e]
      exact one 3 11 4 11 4 3 [116, 105, 114, 101] rfl rfl (by decide +kernel) (by decide +kernel) rfl (by decide +kernel) (by intro j c hj; match j, hj with | 0, hj => exact hj | 1, hj => exact hj | 2, hj => exact hj | 3, hj => exact hj) rfl _ rfl
    rw [if_neg c4] at hw
    by_cases c5 : nx p = 108
    · rw [if_pos c5] at hw; cases hw
      rw [if_neg c1, if_neg c3, if_neg c2, if_neg c4, fl_e]
      exact one 4 15 4 15 4 4 [108, 111, 110, 103] rfl rfl (by decide +kernel) (by decide +kernel) rfl (by decide +kernel) (by intro j c hj; match j, hj with | 0, hj => exact hj | 1, hj => exact hj | 2, hj => exact hj | 3, hj => exact hj) rfl _ rfl
    rw [if_neg c5] at hw; cases hw
/-- the clause c, as it stands in the model's rows -/
noncomputable abbrev ClM (σ : Sg) (c : Nat) (k : Cls) (lo : Nat) : Prop :=
  ((gi σ 118 c).toInt = (k.1 : Int)) ∧ ((gi σ 119 c).toInt = (k.2.1 : Int)) ∧ (k.1 ≤ 1 → (gi σ 120 c).toInt = (lo : Int) ∧ (gi σ 121 c).toInt = ((lo + k.2.2.length : Nat) : Int)) ∧ (∀ j t, k.2.2[j]? = some t → gi σ 122 (lo + j) = encM t)
theorem clauseM {nx e b p σ} {a1 : Int32} (hx : NXo nx e) (h : RtM nx e b p σ) (hL : LTM σ) :
    ((pclause nx p).1 = true → ∃ σ', F_X12_takesClause a1 σ = (1, σ') ∧ RtM nx e (b + (pclause nx p).2.2.2.2.length) (pclause nx p).2.1 σ' ∧ ClM σ' a1.toNatClampNeg (pclause nx p).2.2 b ∧ FXk b a1.toNatClampNeg σ σ')
    ∧ ((pclause nx p).1 = false → ∃ σ', F_X12_takesClause a1 σ = (0, σ') ∧ (gi σ' 74 14).toInt = ((pclause nx p).2.1 : Int) ∧ FXk b a1.toNatClampNeg σ σ') := by
  have q := headM (a1 := a1) hx h hL
  unfold F_X12_takesClause
  cases e1 : wrd (nx p) with
  | none =>
    obtain ⟨σ1, h1, h2, h3⟩ := q.1 e1
    rw [h1, fb_e, if_pos rfl, pcl_n e1]
    exact ⟨fun h9 => (by cases h9), fun _ => ⟨σ1, rfl, h2, h3⟩⟩
  | some w =>
    obtain ⟨w4, -⟩ := wrd_lt e1
    by_cases hm : (pmatch nx (wtx w) p).1 = true
    · obtain ⟨σ1, h1, h2, h3, h4⟩ := (q.2 w e1).1 hm
      rw [h1, fb_e, if_neg (show ¬ (1 : Int32) = 0 by decide +kernel)]
      have g := numT hx h2
      by_cases hd : (pnum nx (pmatch nx (wtx w) p).2).1 = true
      · obtain ⟨σ4, d1, d2, d3, d4, d5, d6⟩ := g.1 hd
        rw [d1, fb_e, if_neg (show ¬ (1 : Int32) = 0 by decide +kernel), fl_e]
        obtain ⟨σ8, e8⟩ : ∃ σ8, σ8 = si σ4 119 a1.toNatClampNeg (gi σ4 74 15) := ⟨_, rfl⟩
        rw [← e8]
        have r8 : RtM nx e b (pnum nx (pmatch nx (wtx w) p).2).2.1 σ8 := by rw [e8]; exact RtM_row ⟨by decide +kernel, by decide +kernel⟩ d4
        have f8 : FXk b a1.toNatClampNeg σ σ8 := by
          rw [e8]
          exact FXk_tr h4 (FXk_tr (FXk_t d5) (FX_si FX_rf (Or.inr (Or.inr (Or.inr ⟨Or.inr (Or.inl rfl), rfl⟩)))))
        have w8 : (gi σ8 118 a1.toNatClampNeg).toInt = (w : Int) := by
          rw [e8, gi_si_ne (Or.inl (by decide +kernel)), FX_i d5 (fun h => h) (fun h => absurd h.1 (by decide +kernel))]; exact h3
        have n8 : (gi σ8 119 a1.toNatClampNeg).toInt = ((pnum nx (pmatch nx (wtx w) p).2).2.2 : Int) := by rw [e8, gi_si_eq]; exact d2
        have z2 : (2 : Int32).toInt = 2 := rfl
        by_cases hw : 2 ≤ w
        · rw [if_pos (Int32.le_iff_toInt_le.mpr (by omega)), pcl_2 e1 hm hd hw]
          refine ⟨fun _ => ⟨σ8, rfl, r8, ⟨w8, n8, fun h9 => absurd h9 (by show ¬ w ≤ 1; omega), fun j t ht => ?_⟩, f8⟩, fun h9 => by cases h9⟩
          have ht : ([] : List Tok)[j]? = some t := ht
          rw [List.getElem?_nil] at ht; cases ht
        · rw [if_neg (fun h9 => by have := Int32.le_iff_toInt_le.mp h9; omega)]
          by_cases hb : nx (pnum nx (pmatch nx (wtx w) p).2).2.1 = 32
          · obtain ⟨t1, t2, t3⟩ := takesT_t hx r8 (op := 32) rfl (by decide +kernel) hb
            rw [t1, fb_e, if_neg (show ¬ (1 : Int32) = 0 by decide +kernel), pcl_e e1 hm hd hw hb]
            have k := takesE_M (a1 := a1) hx t2
            by_cases hE : (pE nx ((pnum nx (pmatch nx (wtx w) p).2).2.1 + 1)).1 = true
            · obtain ⟨σ', k1, k2, k3, k4, k5, k6⟩ := k.1 hE
              rw [k1, fb_e, if_neg (show ¬ (1 : Int32) = 0 by decide +kernel)]
              have fx : FXk b a1.toNatClampNeg σ8 σ' := FXk_tr (FXk_t t3) (FXk_f k6)
              have n9 : ∀ id, id = 118 ∨ id = 119 → ∀ k, gi σ' id k = gi σ8 id k := fun id hid k => by
                rw [FX_i k6 (by show ¬ id = 123; omega) (by rintro (⟨h9, -⟩ | ⟨h9, -⟩ | ⟨h9, -⟩ | ⟨h9, -⟩) <;> omega), gi_si_ne (Or.inl (by omega))]
              exact ⟨fun _ => ⟨σ', rfl, k2, ⟨by rw [n9 118 (Or.inl rfl)]; exact w8, by rw [n9 119 (Or.inr rfl)]; exact n8, fun _ => ⟨k4, k5⟩, k3⟩, FXk_tr f8 fx⟩, fun h9 => by
                have h9 : (pE nx ((pnum nx (pmatch nx (wtx w) p).2).2.1 + 1)).1 = false := h9
                rw [hE] at h9; cases h9⟩
            · obtain ⟨σ', k1, k2, k3⟩ := k.2 (Bool.eq_false_iff.mpr hE)
              rw [k1, fb_e, if_pos rfl]
              exact ⟨fun h9 => absurd h9 hE, fun _ => ⟨σ', rfl, k2, FXk_tr f8 (FXk_tr (FXk_t t3) (FXk_f k3))⟩⟩
          · rw [takesT_f hx r8 (op := 32) rfl hb, fb_e, if_pos rfl, pcl_b e1 hm hd hw hb]
            exact ⟨fun h9 => (by cases h9), fun _ => ⟨σ8, rfl, r8.at_, f8⟩⟩
      · have hd' : (pnum nx (pmatch nx (wtx w) p).2).1 = false := Bool.eq_false_iff.mpr hd
        obtain ⟨r1, r2⟩ := g.2 hd'
        rw [r1, fb_e, if_pos rfl, pcl_d e1 hm hd']
        refine ⟨fun h9 => (by cases h9), fun _ => ⟨σ1, rfl, ?_, h4⟩⟩
        show (gi σ1 74 14).toInt = ((pnum nx (pmatch nx (wtx w) p).2).2.1 : Int)
        rw [r2]; exact h2.at_
    · have hm' : (pmatch nx (wtx w) p).1 = false := Bool.eq_false_iff.mpr hm
      obtain ⟨σ1, h1, h2, h3⟩ := (q.2 w e1).2 hm'
      rw [h1, fb_e, if_pos rfl, pcl_w e1 hm']
      exact ⟨fun h9 => (by cases h9), fun _ => ⟨σ1, rfl, h2, h3⟩⟩
/-! the model's text, its field -/
noncomputable abbrev ClsM (σ : Sg) (f : Nat) (cl : List Cls) : Prop := ∀ i c, cl[i]? = some c → ClM σ (10 * f + i) c (100 * f + (toksOf (cl.take i)).length)
theorem ClM_fx {b c c9 lo : Nat} {k : Cls} {σ σ' : Sg} (f : FXk b c9 σ σ') (hc : c ≠ c9) (hb : lo + k.2.2.length ≤ b) (h : ClM σ c k lo) : ClM σ' c k lo := by
  have e : ∀ id, id = 118 ∨ id = 119 ∨ id = 120 ∨ id = 121 → gi σ' id c = gi σ id c := fun id hid => FX_i f (by omega) (by rintro (⟨h9, -⟩ | ⟨h9, -⟩ | ⟨-, h9⟩) <;> omega)
  refine ⟨by rw [e 118 (by omega)]; exact h.1, by rw [e 119 (by omega)]; exact h.2.1, fun hw => ?_, fun j t ht => ?_⟩
  · rw [e 120 (by omega), e 121 (by omega)]; exact h.2.2.1 hw
  · have hj := (List.getElem?_eq_some_iff.mp ht).1
    rw [FX_i f (show ¬ (122 : Nat) = 123 by decide +kernel) (by rintro (⟨h9, -⟩ | ⟨-, h9⟩ | ⟨h9, -⟩) <;> omega)]
    exact h.2.2.2 j t ht
theorem ClM_si {c lo a j : Nat} {v : Int32} {k : Cls} {σ : Sg} (ha : a < 118 ∨ 122 < a) (h : ClM σ c k lo) : ClM (si σ a j v) c k lo := by
  have e : ∀ id i, 118 ≤ id → id ≤ 122 → gi (si σ a j v) id i = gi σ id i := fun id i h1 h2 => gi_si_ne (Or.inl (by omega))
  refine ⟨by rw [e 118 _ (by decide +kernel) (by decide +kernel)]; exact h.1, by rw [e 119 _ (by decide +kernel) (by decide +kernel)]; exact h.2.1, fun hw => ?_, fun j t ht => ?_⟩
  · rw [e 120 _ (by decide +kernel) (by decide +kernel), e 121 _ (by decide +kernel) (by decide +kernel)]; exact h.2.2.1 hw
  · rw [e 122 _ (by decide +kernel) (by decide +kernel)]; exact h.2.2.2 j t ht
theorem toks_take {cl : List Cls} {i : Nat} {c : Cls} (h : cl[i]? = some c) : (toksOf (cl.take i)).length + c.2.2.length ≤ (toksOf cl).length := by
  induction cl generalizing i with
  | nil => rw [List.getElem?_nil] at h; cases h
  | cons d cl ih =>
    have e : ∀ l : List Cls, toksOf (d :: l) = d.2.2 ++ toksOf l := fun l => by unfold toksOf; rw [List.map_cons, List.flatten_cons]
    cases i with
    | zero =>
      have h : some d = some c := h
      cases h
      rw [e, List.length_append, List.take_zero]
      show 0 + _ ≤ _
      omega
    | succ i =>
      have := ih (i := i) h
      rw [List.take_succ_cons, e, e, List.length_append, List.length_append]
      omega
/-- what the reading of field f leaves alone in the model -/
noncomputable def FXx (f : Nat) (σ σ' : Sg) : Prop := FX (fun id => id = 123) (fun id k => (id = 74 ∧ (k = 14 ∨ k = 15 ∨ k = 24 ∨ k = 25 ∨ k = 26)) ∨ (id = 122 ∧ 100 * f ≤ k) ∨ ((id = 118 ∨ id = 119 ∨ id = 120 ∨ id = 121) ∧ 10 * f ≤ k) ∨ (id = 117 ∧ k = f)) σ σ'
theorem FXx_tr {f : Nat} {σ σ1 σ2 : Sg} (g : FXx f σ σ1) (h : FXx f σ1 σ2) : FXx f σ σ2 := FX_tr g h (fun _ h => h) (fun _ _ h => Or.inr h)
theorem FXx_k {f b c : Nat} {σ σ1 : Sg} (hb : 100 * f ≤ b) (hc : 10 * f ≤ c) (g : FXk b c σ σ1) : FXx f σ σ1 := FX_tr FX_rf g (fun _ h => h) (fun _ _ h => Or.inr (h.elim Or.inl (fun h => h.elim (fun h => Or.inr (Or.inl ⟨h.1, by omega⟩)) (fun h => Or.inr (Or.inr (Or.inl ⟨h.1, by omega⟩))))))
theorem FXx_t {f : Nat} {σ σ1 : Sg} (g : FXt σ σ1) : FXx f σ σ1 := FX_tr FX_rf g (fun _ h => h.elim) (fun _ _ h => Or.inr (Or.inl ⟨h.1, h.2.elim Or.inl (fun h => Or.inr (Or.inl h))⟩))
theorem textM {nx : Nat → Int} {e f : Nat} {x1 : Int32} (hx : NXo nx e) (h1 : x1.toInt = (f : Int)) (hf : f ≤ 5) : ∀ k p cl σ (x2 : Int32) m, RtM nx e (100 * f + (toksOf cl).length) p σ → LTM σ → ClsM σ f cl → cl.length + k + 1 = 10 → x2.toInt = (cl.length : Int) → k + 1 ≤ m →
    ((ptext nx e (k + 1) p cl).1 = true → ∃ σ', LF_X12_goesText m x1 x2 σ = (1, σ') ∧ ClsM σ' f (ptext nx e (k + 1) p cl).2.2 ∧ (gi σ' 117 f).toInt = ((ptext nx e (k + 1) p cl).2.2.length : Int) ∧ FXx f σ σ')
    ∧ ((ptext nx e (k + 1) p cl).1 = false → ∃ σ', LF_X12_goesText m x1 x2 σ = (0, σ') ∧ (gi σ' 74 14).toInt = ((ptext nx e (k + 1) p cl).2.1 : Int) ∧ FXx f σ σ') := by
  have z10 : (10 : Int32).toInt = 10 := rfl
  have ec := cl_eq (x := x1) (by omega)
  have ef : x1.toNatClampNeg = f := by omega
  intro k
  induction k with
  | zero =>
    intro p cl σ x2 m h hL hC hl h2 hm
    obtain ⟨m, rfl⟩ : ∃ j, m = j + 1 := ⟨m - 1, by omega⟩
    have m1 : ((10 : Int32) * x1).toInt = 10 * x1.toInt := i_mull rfl (by omega) (by omega)
    have m2 : (((10 : Int32) * x1) + x2).toInt = ((10 : Int32) * x1).toInt + x2.toInt := i_add (by omega) (by omega)
    have ei := cl_eq (x := ((10 : Int32) * x1) + x2) (by omega)
    have en : (((10 : Int32) * x1) + x2).toNatClampNeg = 10 * f + cl.length := by omega
    have t9 : (x2 + (1 : Int32)).toInt = x2.toInt + 1 := i_add (y := (1 : Int32)) (by show (_ : Int) ≤ x2.toInt + 1; omega) (by show x2.toInt + 1 ≤ (_ : Int); omega)
    have q := clauseM (a1 := ((10 : Int32) * x1) + x2) hx h hL
    rw [en] at q
    show (_ → ∃ σ', LB_X12_goesText_15 (LF_X12_goesText m) x1 x2 σ = _ ∧ _) ∧ (_ → ∃ σ', LB_X12_goesText_15 (LF_X12_goesText m) x1 x2 σ = _ ∧ _)
    unfold LB_X12_goesText_15
    rw [ptext_s]
    by_cases hr : (pclause nx p).1 = true
    · obtain ⟨σ1, c1, c2, c3, c4⟩ := q.1 hr
      rw [c1, fb_e, if_neg (show ¬ (1 : Int32) = 0 by decide +kernel), if_pos hr, fl_e, fl_e, ef]
      obtain ⟨σ6, e6⟩ : ∃ σ6, σ6 = si σ1 117 f (x2 + 1) := ⟨_, rfl⟩
      rw [← e6]
      have r6 : RtM nx e (100 * f + (toksOf cl).length + (pclause nx p).2.2.2.2.length) (pclause nx p).2.1 σ6 := by rw [e6]; exact RtM_row ⟨by decide +kernel, by decide +kernel⟩ c2
      have f6 : FXx f σ σ6 := by
        rw [e6]
        exact FXx_tr (FXx_k (by omega) (by omega) c4) (FX_si FX_rf (Or.inr (Or.inr (Or.inr (Or.inr ⟨rfl, rfl⟩)))))
      by_cases hp : (pclause nx p).2.1 = e
      · rw [if_pos (show gi σ6 74 14 = gi σ6 74 13 from Int32.toInt_inj.mp (by rw [r6.at_, r6.en, hp])), if_pos hp]
        refine ⟨fun _ => ⟨σ6, rfl, fun i c hi => ?_, ?_, f6⟩, fun h9 => by cases h9⟩
        · have hi : (cl ++ [(pclause nx p).2.2])[i]? = some c := hi
          rw [e6]
          refine ClM_si (Or.inl (by decide +kernel)) ?_
          show ClM σ1 (10 * f + i) c (100 * f + (toksOf ((cl ++ [(pclause nx p).2.2]).take i)).length)
          by_cases hj : i = cl.length
          · rw [hj, List.getElem?_append_right (Nat.le_refl _), Nat.sub_self] at hi
            have hi : some (pclause nx p).2.2 = some c := hi
            cases hi
            rw [hj, List.take_append_of_le_length (Nat.le_refl _), List.take_length]
            exact c3
          · have hj2 : i < cl.length := by
              have := (List.getElem?_eq_some_iff.mp hi).1
              rw [List.length_append] at this
              have : i < cl.length + 1 := this
              omega
            rw [List.getElem?_append_left hj2] at hi
            rw [List.take_append_of_le_length (by omega)]
            exact ClM_fx c4 (by omega) (by have := toks_take hi; omega) (hC i c hi)
        · rw [e6, gi_si_eq, t9]
          show _ = ((cl ++ [(pclause nx p).2.2]).length : Int)
          rw [List.length_append]; show _ = ((cl.length + 1 : Nat) : Int); omega
      · rw [if_neg (show ¬ gi σ6 74 14 = gi σ6 74 13 from fun h9 => hp (by have := r6.at_; rw [h9, r6.en] at this; omega)), if_neg hp, if_pos (show (0 : Nat) = 0 from rfl), if_pos (show x2 + 1 = (10 : Int32) from Int32.toInt_inj.mp (by omega))]
        exact ⟨fun h9 => (by cases h9), fun _ => ⟨σ6, rfl, r6.at_, f6⟩⟩
    · obtain ⟨σ1, c1, c2, c3⟩ := q.2 (Bool.eq_false_iff.mpr hr)
      rw [c1, fb_e, if_pos rfl, if_neg hr]
      exact ⟨fun h9 => (by cases h9), fun _ => ⟨σ1, rfl, c2, FXx_k (by omega) (by omega) c3⟩⟩
  | succ k ih =>
    intro p cl σ x2 m h hL hC hl h2 hm
    obtain ⟨m, rfl⟩ : ∃ j, m = j + 1 := ⟨m - 1, by omega⟩
    have m1 : ((10 : Int32) * x1).toInt = 10 * x1.toInt := i_mull rfl (by omega) (by omega)
    have m2 : (((10 : Int32) * x1) + x2).toInt = ((10 : Int32) * x1).toInt + x2.toInt := i_add (by omega) (by omega)
    have ei := cl_eq (x := ((10 : Int32) * x1) + x2) (by omega)
    have en : (((10 : Int32) * x1) + x2).toNatClampNeg = 10 * f + cl.length := by omega
    have t9 : (x2 + (1 : Int32)).toInt = x2.toInt + 1 := i_add (y := (1 : Int32)) (by show (_ : Int) ≤ x2.toInt + 1; omega) (by show x2.toInt + 1 ≤ (_ : Int); omega)
    have q := clauseM (a1 := ((10 : Int32) * x1) + x2) hx h hL
    rw [en] at q
    show (_ → ∃ σ', LB_X12_goesText_15 (LF_X12_goesText m) x1 x2 σ = _ ∧ _) ∧ (_ → ∃ σ', LB_X12_goesText_15 (LF_X12_goesText m) x1 x2 σ = _ ∧ _)
    unfold LB_X12_goesText_15
    rw [ptext_s]
    by_cases hr : (pclause nx p).1 = true
    · obtain ⟨σ1, c1, c2, c3, c4⟩ := q.1 hr
      rw [c1, fb_e, if_neg (show ¬ (1 : Int32) = 0 by decide +kernel), if_pos hr, fl_e, fl_e, ef]
      obtain ⟨σ6, e6⟩ : ∃ σ6, σ6 = si σ1 117 f (x2 + 1) := ⟨_, rfl⟩
      rw [← e6]
      have r6 : RtM nx e (100 * f + (toksOf cl).length + (pclause nx p).2.2.2.2.length) (pclause nx p).2.1 σ6 := by rw [e6]; exact RtM_row ⟨by decide +kernel, by decide +kernel⟩ c2
      have f6 : FXx f σ σ6 := by
        rw [e6]
        exact FXx_tr (FXx_k (by omega) (by omega) c4) (FX_si FX_rf (Or.inr (Or.inr (Or.inr (Or.inr ⟨rfl, rfl⟩)))))
      have C6 : ClsM σ6 f (cl ++ [(pclause nx p).2.2]) := by
        intro i c hi
        rw [e6]
        refine ClM_si (Or.inl (by decide +kernel)) ?_
        show ClM σ1 (10 * f + i) c (100 * f + (toksOf ((cl ++ [(pclause nx p).2.2]).take i)).length)
        by_cases hj : i = cl.length
        · rw [hj, List.getElem?_append_right (Nat.le_refl _), Nat.sub_self] at hi
          have hi : some (pclause nx p).2.2 = some c := hi
          cases hi
          rw [hj, List.take_append_of_le_length (Nat.le_refl _), List.take_length]
          exact c3
        · have hj2 : i < cl.length := by
            have := (List.getElem?_eq_some_iff.mp hi).1
            rw [List.length_append] at this
            have : i < cl.length + 1 := this
            omega
          rw [List.getElem?_append_left hj2] at hi
          rw [List.take_append_of_le_length (by omega)]
          exact ClM_fx c4 (by omega) (by have := toks_take hi; omega) (hC i c hi)
      have n6 : (gi σ6 117 f).toInt = ((cl ++ [(pclause nx p).2.2]).length : Int) := by
        rw [e6, gi_si_eq, t9, List.length_append]; show _ = ((cl.length + 1 : Nat) : Int); omega
      by_cases hp : (pclause nx p).2.1 = e
      · rw [if_pos (show gi σ6 74 14 = gi σ6 74 13 from Int32.toInt_inj.mp (by rw [r6.at_, r6.en, hp])), if_pos hp]
        exact ⟨fun _ => ⟨σ6, rfl, C6, n6, f6⟩, fun h9 => by cases h9⟩
      · rw [if_neg (show ¬ gi σ6 74 14 = gi σ6 74 13 from fun h9 => hp (by have := r6.at_; rw [h9, r6.en] at this; omega)), if_neg hp, if_neg (Nat.succ_ne_zero k), if_neg (show ¬ x2 + 1 = (10 : Int32) from fun h9 => by rw [h9] at t9; omega)]
        by_cases hs : nx (pclause nx p).2.1 = 59
        · obtain ⟨t1, t2, t3⟩ := takesT_t hx r6 (op := 59) rfl (by decide +kernel) hs
          rw [t1, fb_e, if_neg (show ¬ (1 : Int32) = 0 by decide +kernel), if_pos hs]
          have L6 : LTM σ6 := LTM_eq (fun j => by rw [e6, gi_si_ne (Or.inl (by decide +kernel)), FX_i c4 (show ¬ (127 : Nat) = 123 by decide +kernel) (by rintro (⟨h9, -⟩ | ⟨h9, -⟩ | ⟨h9, -⟩) <;> omega)]) hL
          have g := ih ((pclause nx p).2.1 + 1) (cl ++ [(pclause nx p).2.2]) _ (x2 + 1) m (by rw [toksOf_ap, List.length_append, ← Nat.add_assoc]; exact t2) (LTM_eq (fun j => gi_si_ne (Or.inl (by decide +kernel))) L6) (fun i c hi => ClM_si (Or.inl (by decide +kernel)) (C6 i c hi)) (by rw [List.length_append]; show cl.length + 1 + k + 1 = 10; omega) (by rw [t9, List.length_append]; show _ = ((cl.length + 1 : Nat) : Int); omega) (by omega)
          refine ⟨fun h9 => ?_, fun h9 => ?_⟩
          · obtain ⟨σ', g1, g2, g3, g4⟩ := g.1 h9
            exact ⟨σ', g1, g2, g3, FXx_tr f6 (FXx_tr (FXx_t t3) g4)⟩
          · obtain ⟨σ', g1, g2, g3⟩ := g.2 h9
            exact ⟨σ', g1, g2, FXx_tr f6 (FXx_tr (FXx_t t3) g3)⟩
        · rw [takesT_f hx r6 (op := 59) rfl hs, fb_e, if_pos rfl, if_neg hs]
          exact ⟨fun h9 => (by cases h9), fun _ => ⟨σ6, rfl, r6.at_, f6⟩⟩
    · obtain ⟨σ1, c1, c2, c3⟩ := q.2 (Bool.eq_false_iff.mpr hr)
      rw [c1, fb_e, if_pos rfl, if_neg hr]
      exact ⟨fun h9 => (by cases h9), fun _ => ⟨σ1, rfl, c2, FXx_k (by omega) (by omega) c3⟩⟩
theorem goesM {e f : Nat} {σ : Sg} {a1 : Int32} (he : (gi σ 74 13).toInt = (e : Int)) (h100 : e ≤ 100) (hb : ∀ p, p < e → 0 ≤ (gi σ 116 p).toInt ∧ (gi σ 116 p).toInt ≤ 127) (hL : LTM σ) (h1 : a1.toInt = (f : Int)) (hf : f ≤ 5) :
    ((ptext (txn (fun p => gi σ 116 p) e) e 10 0 []).1 = true → ∃ σ', F_X12_goesText a1 σ = (1, σ') ∧ ClsM σ' f (ptext (txn (fun p => gi σ 116 p) e) e 10 0 []).2.2 ∧ (gi σ' 117 f).toInt = ((ptext (txn (fun p => gi σ 116 p) e) e 10 0 []).2.2.length : Int) ∧ FXx f σ σ')
    ∧ ((ptext (txn (fun p => gi σ 116 p) e) e 10 0 []).1 = false → ∃ σ', F_X12_goesText a1 σ = (0, σ') ∧ (gi σ' 74 14).toInt = ((ptext (txn (fun p => gi σ 116 p) e) e 10 0 []).2.1 : Int) ∧ FXx f σ σ') := by
  have hx := NXo_txn (g := fun p => gi σ 116 p) h100 hb
  obtain ⟨nx, en⟩ : ∃ nx, nx = txn (fun p => gi σ 116 p) e := ⟨_, rfl⟩
  rw [← en] at hx ⊢
  have m1 : ((100 : Int32) * a1).toInt = 100 * a1.toInt := i_mull rfl (by omega) (by omega)
  obtain ⟨σ2, e2⟩ : ∃ σ2, σ2 = si (si σ 74 14 (0 : Int32)) 74 24 ((100 : Int32) * a1) := ⟨_, rfl⟩
  have E : F_X12_goesText a1 σ = LF_X12_goesText 20 a1 (0 : Int32) σ2 := by
    unfold F_X12_goesText
    rw [fl_e, fl_e, ← e2]
  have f2 : FXx f σ σ2 := by
    rw [e2]
    exact FX_si (FX_si FX_rf (Or.inr (Or.inl ⟨rfl, by decide +kernel⟩))) (Or.inr (Or.inl ⟨rfl, by decide +kernel⟩))
  have r2 : RtM nx e (100 * f + (toksOf []).length) 0 σ2 := by
    rw [e2]
    refine ⟨?_, ?_, ?_, ?_, Nat.zero_le _, ?_⟩
    · rw [gi_si_ne (Or.inr (by decide +kernel)), gi_si_ne (Or.inr (by decide +kernel))]; exact he
    · intro q hq
      rw [gi_si_ne (Or.inl (by decide +kernel)), gi_si_ne (Or.inl (by decide +kernel)), en]
      unfold txn; rw [if_pos hq]
    · rw [gi_si_ne (Or.inr (by decide +kernel)), gi_si_eq]; rfl
    · rw [gi_si_eq, m1, h1]; show _ = ((100 * f + 0 : Nat) : Int); omega
    · show 100 * f + 0 ≤ 500 + 0; omega
  have g := textM (x1 := a1) hx h1 hf 9 0 [] σ2 (0 : Int32) 20 r2 (LTM_eq (fun j => by rw [e2, gi_si_ne (Or.inl (by decide +kernel)), gi_si_ne (Or.inl (by decide +kernel))]) hL) (fun i c hi => by rw [List.getElem?_nil] at hi; cases hi) rfl rfl (by decide +kernel)
  rw [E]
  refine ⟨fun h9 => ?_, fun h9 => ?_⟩
  · obtain ⟨σ', g1, g2, g3, g4⟩ := g.1 h9
    exact ⟨σ', g1, g2, g3, FXx_tr f2 g4⟩
  · obtain ⟨σ', g1, g2, g3⟩ := g.2 h9
    exact ⟨σ', g1, g2, FXx_tr f2 g3⟩
/-! the signs of E: how high the pile stands -/
noncomputable def Wf (d : Nat) : Nat → List Tok → Nat → Prop
  | h, [], h' => h = h'
  | h, Sum.inl q :: ts, h' => h + 1 ≤ d ∧ q.1 ≤ 5 ∧ q.2.1 ≤ 2 ∧ q.2.2 ≤ 99 ∧ Wf d (h + 1) ts h'
  | h, Sum.inr k :: ts, h' => if k = 0 then 1 ≤ h ∧ Wf d h ts h' else 2 ≤ h ∧ Wf d (h - 1) ts h'
theorem Wf_l {d h h' : Nat} {q : Nat × Nat × Nat} {ts : List Tok} : Wf d h (Sum.inl q :: ts) h' = (h + 1 ≤ d ∧ q.1 ≤ 5 ∧ q.2.1 ≤ 2 ∧ q.2.2 ≤ 99 ∧ Wf d (h + 1) ts h') := Eq.trans rfl rfl
theorem Wf_r {d h h' k : Nat} {ts : List Tok} : Wf d h (Sum.inr k :: ts) h' = (if k = 0 then 1 ≤ h ∧ Wf d h ts h' else 2 ≤ h ∧ Wf d (h - 1) ts h') := Eq.trans rfl rfl
theorem Wf_ap {d : Nat} {b : List Tok} {h2 : Nat} : ∀ (a : List Tok) (h h1 : Nat), Wf d h a h1 → Wf d h1 b h2 → Wf d h (a ++ b) h2 := by
  intro a
  induction a with
  | nil => intro h h1 x y; rw [show h = h1 from x]; exact y
  | cons t a ih =>
    intro h h1 x y
    cases t with
    | inl q =>
      rw [Wf_l] at x
      rw [List.cons_append, Wf_l]
      exact ⟨x.1, x.2.1, x.2.2.1, x.2.2.2.1, ih _ _ x.2.2.2.2 y⟩
    | inr k =>
      rw [Wf_r] at x
      rw [List.cons_append, Wf_r]
      by_cases hk : k = 0
      · rw [if_pos hk] at x ⊢; exact ⟨x.1, ih _ _ x.2 y⟩
      · rw [if_neg hk] at x ⊢; exact ⟨x.1, ih _ _ x.2 y⟩
theorem Wf_mono {d d' : Nat} (hd : d ≤ d') : ∀ (a : List Tok) (h h1 : Nat), Wf d h a h1 → Wf d' h a h1 := by
  intro a
  induction a with
  | nil => intro h h1 x; exact x
  | cons t a ih =>
    intro h h1 x
    cases t with
    | inl q =>
      rw [Wf_l] at x ⊢
      exact ⟨Nat.le_trans x.1 hd, x.2.1, x.2.2.1, x.2.2.2.1, ih _ _ x.2.2.2.2⟩
    | inr k =>
      rw [Wf_r] at x ⊢
      by_cases hk : k = 0
      · rw [if_pos hk] at x ⊢; exact ⟨x.1, ih _ _ x.2⟩
      · rw [if_neg hk] at x ⊢; exact ⟨x.1, ih _ _ x.2⟩
noncomputable def Gd (d : Nat) (ts : List Tok) : Prop := ∀ h, Wf (h + d) h ts (h + 1)
noncomputable def CG (d : Nat) (ts : List Tok) : Prop := ∀ h, 1 ≤ h → Wf (h + d) h ts h
theorem Gd_mono {d d' : Nat} {ts : List Tok} (hd : d ≤ d') (g : Gd d ts) : Gd d' ts := fun h => Wf_mono (by omega) _ _ _ (g h)
theorem G_pch {nx op tk d} {f : Nat → PRd} (hk : tk = Tok.A ∨ tk = Tok.O) (hf : ∀ p, (f p).1 = true → Gd d (f p).2.2) : ∀ n p, (pch nx op tk f n p).1 = true → CG d (pch nx op tk f n p).2.2 := by
  intro n
  induction n with
  | zero => intro p _ h _; exact (rfl : h = h)
  | succ n ih =>
    intro p h9
    by_cases hx : nx p = op
    · by_cases hr : (f (p + 1)).1 = true
      · have e1 : pch nx op tk f (n + 1) p = ((pch nx op tk f n (f (p + 1)).2.1).1, (pch nx op tk f n (f (p + 1)).2.1).2.1, (f (p + 1)).2.2 ++ tk :: (pch nx op tk f n (f (p + 1)).2.1).2.2) := by
          show (if nx p = op then _ else _) = _
          rw [if_pos hx, if_pos hr]
        rw [e1] at h9 ⊢
        intro h hh
        have k := ih _ h9 h hh
        refine Wf_ap _ _ _ (hf _ hr h) ?_
        rcases hk with rfl | rfl
        · show Wf _ _ (Sum.inr 1 :: _) _
          rw [Wf_r, if_neg (by decide +kernel)]; exact ⟨by omega, k⟩
        · show Wf _ _ (Sum.inr 2 :: _) _
          rw [Wf_r, if_neg (by decide +kernel)]; exact ⟨by omega, k⟩
      · have e1 : pch nx op tk f (n + 1) p = (false, (f (p + 1)).2.1, []) := by
          show (if nx p = op then _ else _) = _
          rw [if_pos hx, if_neg hr]
        rw [e1] at h9; cases h9
    · have e1 : pch nx op tk f (n + 1) p = (true, p, []) := by
        show (if nx p = op then _ else _) = _
        rw [if_neg hx]
      rw [e1]
      intro h _; exact (rfl : h = h)
theorem G_pchain {nx op tk d} {f : Nat → PRd} (hk : tk = Tok.A ∨ tk = Tok.O) (hf : ∀ p, (f p).1 = true → Gd d (f p).2.2) (p : Nat) (h9 : (pchain nx op tk f p).1 = true) : Gd (d + 1) (pchain nx op tk f p).2.2 := by
  by_cases hr : (f p).1 = true
  · have e1 : pchain nx op tk f p = ((pch nx op tk f 101 (f p).2.1).1, (pch nx op tk f 101 (f p).2.1).2.1, (f p).2.2 ++ (pch nx op tk f 101 (f p).2.1).2.2) := by
      show (if (f p).1 = true then _ else _) = _
      rw [if_pos hr]
    rw [e1] at h9 ⊢
    intro h
    have k := G_pch hk hf 101 _ h9 (h + 1) (by omega)
    rw [show h + 1 + d = h + (d + 1) from by omega] at k
    exact Wf_ap _ _ _ (Wf_mono (by omega) _ _ _ (hf p hr h)) k
  · have e1 : pchain nx op tk f p = (false, (f p).2.1, []) := by
      show (if (f p).1 = true then _ else _) = _
      rw [if_neg hr]
    rw [e1] at h9; cases h9
theorem pnum_99 {nx : Nat → Int} {p : Nat} : (pnum nx p).2.2 ≤ 99 := by
  unfold pnum
  by_cases d0 : dig (nx p) = true
  · have b0 := of_decide_eq_true d0
    rw [if_pos d0]
    by_cases d1 : dig (nx (p + 1)) = true
    · have b1 := of_decide_eq_true d1
      rw [if_pos d1]
      show 10 * (nx p - 48).toNat + (nx (p + 1) - 48).toNat ≤ 99
      omega
    · rw [if_neg d1]
      show (nx p - 48).toNat ≤ 99
      omega
  · rw [if_neg d0]; exact Nat.zero_le _
theorem G_test {nx : Nat → Int} {p : Nat} (h : (ptest nx p).1 = true) : Gd 1 (ptest nx p).2.2 := by
  unfold ptest at h ⊢
  cases e1 : ltr (nx p) with
  | none => rw [e1] at h; cases h
  | some f =>
    rw [e1] at h
    cases e2 : cmpn (nx (p + 1)) with
    | none => simp only [e2] at h; cases h
    | some s =>
      simp only [e2] at h ⊢
      by_cases hq : (pnum nx (p + 2)).1 = true
      · rw [if_pos hq]
        intro h
        show Wf _ _ [Sum.inl (f, s, (pnum nx (p + 2)).2.2)] _
        rw [Wf_l]
        exact ⟨Nat.le_refl _, (ltr_lt e1).1, (cmp_lt e2).1, pnum_99, rfl⟩
      · rw [if_neg hq] at h; cases h
theorem G_part {nx : Nat → Int} : ∀ k p, (ppart nx (ptest nx) k p).1 = true → Gd (1 + 2 * k) (ppart nx (ptest nx) k p).2.2 := by
  intro k
  induction k with
  | zero => intro p h; exact G_test h
  | succ k ih =>
    intro p h
    by_cases h33 : nx p = 33
    · by_cases hr : (ppart nx (ptest nx) k (p + 1)).1 = true
      · have e1 : ppart nx (ptest nx) (k + 1) p = (true, (ppart nx (ptest nx) k (p + 1)).2.1, (ppart nx (ptest nx) k (p + 1)).2.2 ++ [.N]) := by
          show (if nx p = 33 then _ else _) = _
          rw [if_pos h33, if_pos hr]
        rw [e1]
        intro h
        refine Wf_ap _ _ _ (Wf_mono (by omega) _ _ _ (ih _ hr h)) ?_
        show Wf _ _ [Sum.inr 0] _
        rw [Wf_r, if_pos rfl]
        exact ⟨by omega, rfl⟩
      · have e1 : ppart nx (ptest nx) (k + 1) p = (false, (ppart nx (ptest nx) k (p + 1)).2.1, []) := by
          show (if nx p = 33 then _ else _) = _
          rw [if_pos h33, if_neg hr]
        rw [e1] at h; cases h
    · by_cases h40 : nx p = 40
      · by_cases hr : (peither nx (ppart nx (ptest nx) k) (p + 1)).1 = true
        · by_cases h41 : nx (peither nx (ppart nx (ptest nx) k) (p + 1)).2.1 = 41
          · have e1 : ppart nx (ptest nx) (k + 1) p = (true, (peither nx (ppart nx (ptest nx) k) (p + 1)).2.1 + 1, (peither nx (ppart nx (ptest nx) k) (p + 1)).2.2) := by
              show (if nx p = 33 then _ else _) = _
              rw [if_neg h33, if_pos h40, if_pos hr, if_pos h41]
            rw [e1]
            refine Gd_mono (d := 1 + 2 * k + 1 + 1) (by omega) ?_
            exact G_pchain (Or.inr rfl) (fun q hq => G_pchain (Or.inl rfl) ih q hq) (p + 1) hr
          · have e1 : ppart nx (ptest nx) (k + 1) p = (false, (peither nx (ppart nx (ptest nx) k) (p + 1)).2.1, []) := by
              show (if nx p = 33 then _ else _) = _
              rw [if_neg h33, if_pos h40, if_pos hr, if_neg h41]
            rw [e1] at h; cases h
        · have e1 : ppart nx (ptest nx) (k + 1) p = (false, (peither nx (ppart nx (ptest nx) k) (p + 1)).2.1, []) := by
            show (if nx p = 33 then _ else _) = _
            rw [if_neg h33, if_pos h40, if_neg hr]
          rw [e1] at h; cases h
      · have e1 : ppart nx (ptest nx) (k + 1) p = ptest nx p := by
          show (if nx p = 33 then _ else _) = _
          rw [if_neg h33, if_neg h40]
        rw [e1] at h ⊢
        exact Gd_mono (by omega) (G_test h)
theorem G_pE {nx : Nat → Int} {p : Nat} (h : (pE nx p).1 = true) : Gd 11 (pE nx p).2.2 :=
  G_pchain (Or.inr rfl) (fun q hq => G_pchain (Or.inl rfl) (fun q hq => G_part 4 q hq) q hq) p h
/-- a clause as it may be -/
noncomputable abbrev PW1 (c : Cls) : Prop := (c.1 ≤ 4) ∧ (c.2.1 ≤ 99) ∧ (c.1 ≤ 1 → Gd 11 c.2.2) ∧ (2 ≤ c.1 → c.2.2 = [])
noncomputable abbrev PW (cl : List Cls) : Prop := ∀ c, c ∈ cl → PW1 c
theorem pclause_PW {nx : Nat → Int} {p : Nat} (h : (pclause nx p).1 = true) : PW1 (pclause nx p).2.2 := by
  cases e1 : wrd (nx p) with
  | none => rw [pcl_n e1] at h; cases h
  | some w =>
    obtain ⟨w4, -⟩ := wrd_lt e1
    by_cases hm : (pmatch nx (wtx w) p).1 = true
    · by_cases hd : (pnum nx (pmatch nx (wtx w) p).2).1 = true
      · by_cases hw : 2 ≤ w
        · rw [pcl_2 e1 hm hd hw]
          exact ⟨w4, pnum_99, fun h9 => absurd h9 (by show ¬ w ≤ 1; omega), fun _ => rfl⟩
        · by_cases hb : nx (pnum nx (pmatch nx (wtx w) p).2).2.1 = 32
          · rw [pcl_e e1 hm hd hw hb] at h ⊢
            exact ⟨w4, pnum_99, fun _ => G_pE h, fun h9 => absurd h9 hw⟩
          · rw [pcl_b e1 hm hd hw hb] at h; cases h
      · rw [pcl_d e1 hm (Bool.eq_false_iff.mpr hd)] at h; cases h
    · rw [pcl_w e1 (Bool.eq_false_iff.mpr hm)] at h; cases h
theorem ptext_PW {nx : Nat → Int} {e : Nat} : ∀ k p cl, PW cl → (ptext nx e k p cl).1 = true → PW (ptext nx e k p cl).2.2 := by
  intro k
  induction k with
  | zero => intro p cl _ h; cases h
  | succ k ih =>
    intro p cl hc h
    rw [ptext_s] at h ⊢
    by_cases hr : (pclause nx p).1 = true
    · have hc2 : PW (cl ++ [(pclause nx p).2.2]) := by
        intro c hc9
        rcases List.mem_append.mp hc9 with h9 | h9
        · exact hc c h9
        · rw [List.mem_singleton.mp h9]; exact pclause_PW hr
      rw [if_pos hr] at h ⊢
      by_cases hp : (pclause nx p).2.1 = e
      · rw [if_pos hp]; exact hc2
      · rw [if_neg hp] at h ⊢
        by_cases hk : k = 0
        · rw [if_pos hk] at h; cases h
        · rw [if_neg hk] at h ⊢
          by_cases hs : nx (pclause nx p).2.1 = 59
          · rw [if_pos hs] at h ⊢; exact ih _ _ hc2 h
          · rw [if_neg hs] at h; cases h
    · rw [if_neg hr] at h; cases h
/-! texts and fields, alike in both -/
noncomputable abbrev FdA (σ : Sg) (c0 : Nat) (cl : List Cls) : Prop := (FdR σ c0 cl) ∧ (FdN σ c0 cl) ∧ (CDc σ c0 (toksOf cl))
noncomputable abbrev FDS (σ : Sg) (k : Nat) (cl : List Cls) : Prop := (FdA σ (1000 + 5 * k) cl) ∧ (ClsM σ k cl) ∧ ((gi σ 117 k).toInt = (cl.length : Int)) ∧ (cl.length ≤ 10) ∧ (PW cl) ∧ ((toksOf cl).length ≤ 100)
noncomputable def TXT (σ : Sg) : Prop := (gi σ 0 7).toInt = (gi σ 74 13).toInt ∧ ∀ p : Nat, (p : Int) < (gi σ 0 7).toInt → (gi σ 50 p).toInt = (gi σ 116 p).toInt
noncomputable def HLD (σ : Sg) (c m : Nat) : Prop := ((gi σ 74 m).toInt = -1 ∧ gr σ c 10 = some 69) ∨ ∃ k : Nat, (gi σ 74 m).toInt = (k : Int) ∧ (k : Int) < (gi σ 74 11).toInt ∧ gr σ c 10 = some (1000 + 5 * k)
noncomputable def FLS (σ : Sg) : Prop := (gi σ 0 5).toInt = (gi σ 74 11).toInt ∧ (gi σ 0 5).toInt ≤ 6 ∧ (∀ k, k < 6 → gr σ 49 k = none ∨ gr σ 49 k = some (1000 + 5 * k)) ∧ (∀ k : Nat, (k : Int) < (gi σ 0 5).toInt → ∃ cl, FDS σ k cl)
noncomputable def RF0 (σ : Sg) : Prop := TXT σ ∧ FLS σ ∧ FdA σ 69 [] ∧ LTM σ
noncomputable def RF (σ : Sg) : Prop := RF0 σ ∧ HLD σ 1 12 ∧ HLD σ 17 50
theorem FdA_eq {σ σ' : Sg} {c0 : Nat} {cl : List Cls} (h : ∀ id k, c0 ≤ id → id ≤ c0 + 4 → gi σ' id k = gi σ id k) (q : FdA σ c0 cl) : FdA σ' c0 cl := by
  obtain ⟨⟨a1, a2⟩, ⟨b0, b1, b2⟩, c1, c2⟩ := q
  refine ⟨⟨by rw [h c0 8 (by omega) (by omega)]; exact a1, fun i c hc => ?_⟩, ⟨by rw [h c0 0 (by omega) (by omega)]; exact b0, by rw [h c0 1 (by omega) (by omega)]; exact b1, by rw [h c0 2 (by omega) (by omega)]; exact b2⟩, ⟨by rw [h c0 4 (by omega) (by omega)]; exact c1, fun j t ht => by rw [h (c0 + 1) j (by omega) (by omega)]; exact c2 j t ht⟩⟩
  rw [h (c0 + 2) i (by omega) (by omega), h (c0 + 3) i (by omega) (by omega), h (c0 + 4) i (by omega) (by omega)]
  exact a2 i c hc
theorem ClsM_eq {σ σ' : Sg} {k : Nat} {cl : List Cls} (h : ∀ i id, i < cl.length → 118 ≤ id → id ≤ 121 → gi σ' id (10 * k + i) = gi σ id (10 * k + i)) (g : ∀ j, j < 100 * k + (toksOf cl).length → gi σ' 122 j = gi σ 122 j) (q : ClsM σ k cl) : ClsM σ' k cl := by
  intro i c hc
  have hi := (List.getElem?_eq_some_iff.mp hc).1
  have ht := toks_take hc
  obtain ⟨q1, q2, q3, q4⟩ := q i c hc
  refine ⟨by rw [h i 118 hi (by decide +kernel) (by decide +kernel)]; exact q1, by rw [h i 119 hi (by decide +kernel) (by decide +kernel)]; exact q2, fun hw => by rw [h i 120 hi (by decide +kernel) (by decide +kernel), h i 121 hi (by decide +kernel) (by decide +kernel)]; exact q3 hw, fun j t hj => ?_⟩
  have := (List.getElem?_eq_some_iff.mp hj).1
  rw [g _ (by omega)]
  exact q4 j t hj
theorem HLD_eq {σ σ' : Sg} {c m : Nat} (h1 : (gi σ' 74 m).toInt = (gi σ 74 m).toInt) (h2 : (gi σ 74 11).toInt ≤ (gi σ' 74 11).toInt) (h3 : gr σ' c 10 = gr σ c 10) (q : HLD σ c m) : HLD σ' c m := by
  rcases q with ⟨a, b⟩ | ⟨k, a, b, c9⟩
  · exact Or.inl ⟨by omega, by rw [h3]; exact b⟩
  · exact Or.inr ⟨k, by omega, by omega, by rw [h3]; exact c9⟩
/-- a field's clauses stay, where its cells do -/
theorem FDS_eq {σ σ' : Sg} {k : Nat} {cl : List Cls} (h1 : ∀ id j, 1000 + 5 * k ≤ id → id ≤ 1000 + 5 * k + 4 → gi σ' id j = gi σ id j) (h2 : ∀ id j, 118 ≤ id → id ≤ 121 → j < 10 * k + 10 → gi σ' id j = gi σ id j) (h3 : ∀ j, j < 100 * k + 100 → gi σ' 122 j = gi σ 122 j) (h4 : gi σ' 117 k = gi σ 117 k) (q : FDS σ k cl) : FDS σ' k cl := by
  obtain ⟨q1, q2, q3, q4, q5, q6⟩ := q
  exact ⟨FdA_eq h1 q1, ClsM_eq (fun i id hi a b => h2 id _ a b (by omega)) (fun j hj => h3 j (by omega)) q2, by rw [h4]; exact q3, q4, q5, q6⟩
noncomputable def Rc0 (id k : Nat) : Prop := id = 50 ∨ (69 ≤ id ∧ id ≤ 73) ∨ (116 ≤ id ∧ id ≤ 122) ∨ id = 127 ∨ (1000 ≤ id ∧ id < 2000) ∨ (id = 0 ∧ (k = 5 ∨ k = 7)) ∨ (id = 74 ∧ (k = 11 ∨ k = 13))
theorem RF0_eq {σ σ' : Sg} (h : ∀ id k, Rc0 id k → gi σ' id k = gi σ id k) (g : ∀ k, gr σ' 49 k = gr σ 49 k) (q : RF0 σ) : RF0 σ' := by
  obtain ⟨⟨t1, t2⟩, ⟨f1, f0, f2, f3⟩, b, l⟩ := q
  have e5 : gi σ' 0 5 = gi σ 0 5 := h 0 5 (by unfold Rc0; omega)
  have e7 : gi σ' 0 7 = gi σ 0 7 := h 0 7 (by unfold Rc0; omega)
  refine ⟨⟨by rw [e7, h 74 13 (by unfold Rc0; omega)]; exact t1, fun p hp => ?_⟩, ⟨by rw [e5, h 74 11 (by unfold Rc0; omega)]; exact f1, by rw [e5]; exact f0, fun k hk => by rw [g]; exact f2 k hk, fun k hk => ?_⟩, FdA_eq (fun id k a c => h id k (by unfold Rc0; omega)) b, LTM_eq (fun k => h 127 k (by unfold Rc0; omega)) l⟩
  · rw [e7] at hp
    rw [h 50 p (by unfold Rc0; omega), h 116 p (by unfold Rc0; omega)]
    exact t2 p hp
  · rw [e5] at hk
    obtain ⟨cl, hcl⟩ := f3 k hk
    exact ⟨cl, FDS_eq (fun id j a c => h id j (by unfold Rc0; omega)) (fun id j a c _ => h id j (by unfold Rc0; omega)) (fun j _ => h 122 j (by unfold Rc0; omega)) (h 117 k (by unfold Rc0; omega)) hcl⟩
theorem RF0_x {S : Nat → Prop} {F : Nat → Nat → Prop} {σ σ' : Sg} (f : FX S F σ σ') (h1 : ∀ id k, Rc0 id k → ¬ S id ∧ ¬ F id k) (h2 : ∀ k, ¬ S 49 ∧ ¬ F 49 k) (q : RF0 σ) : RF0 σ' :=
  RF0_eq (fun id k hk => f.1 id k (h1 id k hk).1 (h1 id k hk).2) (fun k => f.2.2 49 k (h2 k).1 (h2 k).2) q
theorem RF_x {S : Nat → Prop} {F : Nat → Nat → Prop} {σ σ' : Sg} (f : FX S F σ σ') (h1 : ∀ id k, Rc0 id k ∨ (id = 74 ∧ (k = 12 ∨ k = 50)) → ¬ S id ∧ ¬ F id k) (h2 : ∀ k, ¬ S 49 ∧ ¬ F 49 k) (h3 : ¬ S 1 ∧ ¬ F 1 10) (h4 : ¬ S 17 ∧ ¬ F 17 10) (q : RF σ) : RF σ' := by
  have e : ∀ id k, Rc0 id k ∨ (id = 74 ∧ (k = 12 ∨ k = 50)) → gi σ' id k = gi σ id k := fun id k hk => f.1 id k (h1 id k hk).1 (h1 id k hk).2
  have e11 : gi σ' 74 11 = gi σ 74 11 := e 74 11 (Or.inl (by unfold Rc0; omega))
  exact ⟨RF0_eq (fun id k hk => e id k (Or.inl hk)) (fun k => f.2.2 49 k (h2 k).1 (h2 k).2) q.1, HLD_eq (by rw [e 74 12 (Or.inr ⟨rfl, Or.inl rfl⟩)]) (by rw [e11]; exact Int.le_refl _) (f.2.2 1 10 h3.1 h3.2) q.2.1, HLD_eq (by rw [e 74 50 (Or.inr ⟨rfl, Or.inr rfl⟩)]) (by rw [e11]; exact Int.le_refl _) (f.2.2 17 10 h4.1 h4.2) q.2.2⟩
theorem RF0_m {S F : List Nat} {σ σ' : Sg} (f : Fr S F σ σ') (h : ∀ id ∈ S, (74 ≤ id ∧ id < 116) ∨ (123 ≤ id ∧ id < 127) ∨ (128 ≤ id ∧ id < 1000)) (hF : ∀ k ∈ F, k ≠ 11 ∧ k ≠ 13) (q : RF0 σ) : RF0 σ' := by
  refine RF0_eq (fun id k hk => ?_) (fun k => congrFun (congrFun f.2.2 49) k) q
  by_cases e : id = 74
  · subst e
    exact f.2.1 k (fun z => by have := hF k z; unfold Rc0 at hk; omega)
  · exact congrFun (f.1 id (fun z => by have := h id z; unfold Rc0 at hk; omega)).1 k
theorem RF_m {S F : List Nat} {σ σ' : Sg} (f : Fr S F σ σ') (h : ∀ id ∈ S, (74 ≤ id ∧ id < 116) ∨ (123 ≤ id ∧ id < 127) ∨ (128 ≤ id ∧ id < 1000)) (hF : ∀ k ∈ F, k ≠ 11 ∧ k ≠ 12 ∧ k ≠ 13 ∧ k ≠ 50) (q : RF σ) : RF σ' := by
  have e : ∀ k, k = 11 ∨ k = 12 ∨ k = 50 → gi σ' 74 k = gi σ 74 k := fun k hk => f.2.1 k (fun z => by have := hF k z; omega)
  exact ⟨RF0_m f h (fun k hk => ⟨(hF k hk).1, (hF k hk).2.2.1⟩) q.1, HLD_eq (by rw [e 12 (by omega)]) (by rw [e 11 (by omega)]; exact Int.le_refl _) (congrFun (congrFun f.2.2 1) 10) q.2.1, HLD_eq (by rw [e 50 (by omega)]) (by rw [e 11 (by omega)]; exact Int.le_refl _) (congrFun (congrFun f.2.2 17) 10) q.2.2⟩
theorem RF_image {σ σ1 σ2 : Sg} (q : RF σ) (f : FX (fun id => id = 18 ∨ id = 19 ∨ id = 20 ∨ id = 21 ∨ id = 22 ∨ id = 23 ∨ id = 24 ∨ id = 26 ∨ id = 28 ∨ id = 30) (fun id k => (id = 0 ∧ k = 3) ∨ (id = 17 ∧ k = 1) ∨ (id = 17 ∧ k = 3) ∨ (id = 17 ∧ k = 9) ∨ (id = 17 ∧ k = 10) ∨ (id = 17 ∧ k = 11) ∨ (id = 25 ∧ k = 1) ∨ (id = 27 ∧ k = 1) ∨ (id = 29 ∧ k = 1)) σ σ1) (y : CPY σ σ1 17 1) (g : Fr [74, 156, 157, 158, 159, 160, 161, 162, 163, 164, 165, 166, 167, 168] [49, 50, 51, 52, 53, 54, 55] σ1 σ2) (h50 : (gi σ2 74 50).toInt = (gi σ1 74 12).toInt) : RF σ2 := by
  have e1 : ∀ k, gi σ1 74 k = gi σ 74 k := fun k => f.1 74 k (by intro z; (try dsimp only at z); omega) (by intro z; (try dsimp only at z); omega)
  have e11 : gi σ2 74 11 = gi σ 74 11 := by rw [g.2.1 11 (by decide +kernel), e1]
  have e12 : gi σ2 74 12 = gi σ 74 12 := by rw [g.2.1 12 (by decide +kernel), e1]
  have gr2 : ∀ id k, gr σ2 id k = gr σ1 id k := fun id k => congrFun (congrFun g.2.2 id) k
  refine ⟨RF0_m g (by decide +kernel) (by decide +kernel) (RF0_x f (fun id k hk => ⟨?_, ?_⟩) (fun k => ⟨?_, ?_⟩) q.1), HLD_eq (by rw [e12]) (by rw [e11]; exact Int.le_refl _) ?_ q.2.1, ?_⟩
  · intro z; unfold Rc0 at hk; (try dsimp only at z); omega
  · intro z; unfold Rc0 at hk; (try dsimp only at z); omega
  · intro z; (try dsimp only at z); omega
  · intro z; (try dsimp only at z); omega
  · rw [gr2]
    exact f.2.2 1 10 (by intro z; (try dsimp only at z); omega) (by intro z; (try dsimp only at z); omega)
  · have r17 : gr σ2 17 10 = gr σ 1 10 := by rw [gr2]; exact y.1.2.2.2.2
    have i50 : (gi σ2 74 50).toInt = (gi σ 74 12).toInt := by rw [h50, e1]
    rcases q.2.1 with ⟨a, b⟩ | ⟨k, a, b, c⟩
    · exact Or.inl ⟨by omega, by rw [r17]; exact b⟩
    · exact Or.inr ⟨k, by omega, by rw [e11]; exact b, by rw [r17]; exact c⟩
theorem mundo74 : ∀ n b x σ k, gi (LF_X12_undo n b x σ).2 74 k = gi σ 74 k := by
  intro n
  induction n with
  | zero => intro b x σ k; rfl
  | succ n ih =>
    intro b x σ k
    rcases b with _ | _ | _ | _ | b
    · show gi (LB_X12_undo_68 (LF_X12_undo n) x σ).2 74 k = _
      unfold LB_X12_undo_68
      by_cases h : (6 : Int32) ≤ x
      · rw [if_pos h]; exact ih _ _ _ _
      · rw [if_neg h]
        simp only [fl_e]
        rw [ih]
        repeat rw [gi_si_ne (Or.inl (by decide +kernel))]
    · show gi (LB_X12_undo_202 (LF_X12_undo n) x σ).2 74 k = _
      unfold LB_X12_undo_202
      by_cases h : (24 : Int32) ≤ x
      · rw [if_pos h]; exact ih _ _ _ _
      · rw [if_neg h]
        simp only [fl_e]
        rw [ih]
        repeat rw [gi_si_ne (Or.inl (by decide +kernel))]
    · show gi (LB_X12_undo_228 (LF_X12_undo n) x σ).2 74 k = _
      unfold LB_X12_undo_228
      by_cases h : (10 : Int32) ≤ x
      · rw [if_pos h]; exact ih _ _ _ _
      · rw [if_neg h]
        simp only [fl_e]
        rw [ih]
        repeat rw [gi_si_ne (Or.inl (by decide +kernel))]
    · show gi (LB_X12_undo_254 (LF_X12_undo n) x σ).2 74 k = _
      unfold LB_X12_undo_254
      by_cases h : (8 : Int32) ≤ x
      · rw [if_pos h]
      · rw [if_neg h]
        simp only [fl_e]
        rw [ih]
        repeat rw [gi_si_ne (Or.inl (by decide +kernel))]
    · rfl
theorem mundo12 {σ σ' : Sg} {r : Int32} (hf : F_X12_undo σ = (r, σ')) (hz : ¬ gi σ 74 49 = 0) : gi σ' 74 12 = gi σ 74 50 := by
  unfold F_X12_undo at hf
  rw [if_neg hz] at hf
  simp only [fl_e] at hf
  have e : σ' = (r, σ').2 := rfl
  rw [e, ← hf, mundo74, gi_si_ne (Or.inr (by decide +kernel)), gi_si_ne (Or.inr (by decide +kernel)), gi_si_ne (Or.inr (by decide +kernel)), gi_si_ne (Or.inr (by decide +kernel)), gi_si_ne (Or.inr (by decide +kernel)), gi_si_ne (Or.inr (by decide +kernel)), gi_si_eq]
theorem RF_undo {r2 : Int32} {σ σ1 σ2 : Sg} (ht : (gi σ 0 3).toInt = (gi σ 74 49).toInt) (q : RF σ) (f : FX (fun id => id = 10 ∨ id = 12 ∨ id = 14 ∨ id = 2 ∨ id = 3 ∨ id = 4 ∨ id = 5 ∨ id = 6 ∨ id = 7 ∨ id = 8) (fun id k => (id = 1 ∧ k = 1) ∨ (id = 1 ∧ k = 3) ∨ (id = 1 ∧ k = 9) ∨ (id = 1 ∧ k = 10) ∨ (id = 1 ∧ k = 11) ∨ (id = 11 ∧ k = 1) ∨ (id = 13 ∧ k = 1) ∨ (id = 9 ∧ k = 1)) σ σ1) (y0 : (gi σ 0 3).toInt ≠ 0 → CPY σ σ1 1 17) (y9 : (gi σ 0 3).toInt = 0 → σ1 = σ) (g : Fr [74, 103, 104, 105, 106, 107, 108, 109, 110, 142, 143, 144, 147, 148] [0, 1, 2, 12, 41, 45, 46] σ1 σ2) (h2 : F_X12_undo σ1 = (r2, σ2)) : RF σ2 := by
  by_cases z : (gi σ 0 3).toInt = 0
  · have e := y9 z
    subst e
    have e49 : gi σ1 74 49 = 0 := i_eq (b := (0 : Int32)) (by show (gi σ1 74 49).toInt = 0; omega)
    unfold F_X12_undo at h2
    rw [if_pos e49] at h2
    rw [← (Prod.mk.inj h2).2]
    exact q
  have e1 : ∀ k, gi σ1 74 k = gi σ 74 k := fun k => f.1 74 k (by intro z; (try dsimp only at z); omega) (by intro z; (try dsimp only at z); omega)
  have hz : ¬ gi σ1 74 49 = 0 := fun e => by
    rw [e1] at e
    have e2 : (gi σ 74 49).toInt = 0 := congrArg Int32.toInt e
    omega
  have e12 := mundo12 h2 hz
  have e11 : gi σ2 74 11 = gi σ 74 11 := by rw [g.2.1 11 (by decide +kernel), e1]
  have e50 : gi σ2 74 50 = gi σ 74 50 := by rw [g.2.1 50 (by decide +kernel), e1]
  have gr2 : ∀ id k, gr σ2 id k = gr σ1 id k := fun id k => congrFun (congrFun g.2.2 id) k
  refine ⟨RF0_m g (by decide +kernel) (by decide +kernel) (RF0_x f (fun id k hk => ⟨?_, ?_⟩) (fun k => ⟨?_, ?_⟩) q.1), ?_, HLD_eq (by rw [e50]) (by rw [e11]; exact Int.le_refl _) ?_ q.2.2⟩
  · intro z; unfold Rc0 at hk; (try dsimp only at z); omega
  · intro z; unfold Rc0 at hk; (try dsimp only at z); omega
  · intro z; (try dsimp only at z); omega
  · intro z; (try dsimp only at z); omega
  · have r1 : gr σ2 1 10 = gr σ 17 10 := by rw [gr2]; exact (y0 z).1.2.2.2.2
    have i12 : (gi σ2 74 12).toInt = (gi σ 74 50).toInt := by rw [e12, e1]
    rcases q.2.2 with ⟨a, b⟩ | ⟨k, a, b, c⟩
    · exact Or.inl ⟨by omega, by rw [r1]; exact b⟩
    · exact Or.inr ⟨k, by omega, by rw [e11]; exact b, by rw [r1]; exact c⟩
  · rw [gr2]
    exact f.2.2 17 10 (by intro z; (try dsimp only at z); omega) (by intro z; (try dsimp only at z); omega)
theorem nar_b : ∀ n, n < 128 → vp_nar .byte (Int32.ofNat n).toInt8.toInt32 = Int32.ofNat n := by decide +kernel
theorem RF_feed {a1 r1 r2 : Int32} {σ σ1 σ2 : Sg} (h7 : 0 ≤ (gi σ 0 7).toInt ∧ (gi σ 0 7).toInt ≤ 100) (q : RF σ) (h1 : F_X11_feed a1 σ = (r1, σ1)) (h2 : F_X12_feed a1 σ1 = (r2, σ2)) : RF σ2 ∧ r1 = r2 := by
  obtain ⟨⟨⟨t1, t2⟩, fl9, b9, l9⟩, d1, d2⟩ := q
  have z0 : (0 : Int32).toInt = 0 := rfl
  have z100 : (100 : Int32).toInt = 100 := rfl
  have z127 : (127 : Int32).toInt = 127 := rfl
  have q0 : RF σ := ⟨⟨⟨t1, t2⟩, fl9, b9, l9⟩, d1, d2⟩
  unfold F_X11_feed at h1
  unfold F_X12_feed F_X12_in at h2
  by_cases c1 : a1 < 0
  · rw [if_pos c1] at h1 h2
    rw [fb_e, if_pos rfl] at h2
    cases h1; cases h2
    exact ⟨q0, rfl⟩
  · rw [if_neg c1] at h1 h2
    have c1' : ¬ a1.toInt < 0 := fun h9 => c1 (Int32.lt_iff_toInt_lt.mpr h9)
    by_cases c2 : a1 ≤ (127 : Int32)
    · have c2' := Int32.le_iff_toInt_le.mp c2
      rw [if_pos c2] at h1
      rw [if_neg (show ¬ (127 : Int32) < a1 from fun h9 => by have := Int32.lt_iff_toInt_lt.mp h9; omega), fb_e, if_neg (show ¬ (1 : Int32) = 0 by decide +kernel)] at h2
      by_cases c3 : gi σ 0 7 < (100 : Int32)
      · have c3' := Int32.lt_iff_toInt_lt.mp c3
        rw [if_pos c3] at h1
        simp only [fl_e] at h1
        have en : a1 = Int32.ofNat a1.toNatClampNeg := nI_ofI (by omega)
        have ea := cl_eq (x := a1) (by omega)
        have ev : vp_nar .byte a1.toInt8.toInt32 = a1 := by rw [en]; exact nar_b _ (by omega)
        rw [ev] at h1
        have ec := cl_eq (x := gi σ 0 7) h7.1
        have ed := cl_eq (x := gi σ 74 13) (by omega)
        obtain ⟨n, hn⟩ : ∃ n : Nat, n = (gi σ 0 7).toNatClampNeg := ⟨_, rfl⟩
        have hn2 : (gi σ 74 13).toNatClampNeg = n := by omega
        rw [← hn] at h1
        have t9 : ((gi σ 0 7) + (1 : Int32)).toInt = (gi σ 0 7).toInt + 1 := i_add (y := (1 : Int32)) (by show (_ : Int) ≤ (gi σ 0 7).toInt + 1; omega) (by show (gi σ 0 7).toInt + 1 ≤ (_ : Int); omega)
        have t8 : ((gi σ 74 13) + (1 : Int32)).toInt = (gi σ 74 13).toInt + 1 := i_add (y := (1 : Int32)) (by show (_ : Int) ≤ (gi σ 74 13).toInt + 1; omega) (by show (gi σ 74 13).toInt + 1 ≤ (_ : Int); omega)
        rw [gi_si_ne (show (0 : Nat) ≠ 50 ∨ _ from Or.inl (by decide +kernel)), gi_si_eq] at h1
        have s1 : σ1 = si (si σ 50 n a1) 0 7 ((gi σ 0 7) + (1 : Int32)) := (Prod.mk.inj h1).2.symm
        have p1 : r1 = (gi σ 0 7) + (1 : Int32) := (Prod.mk.inj h1).1.symm
        have g13 : gi σ1 74 13 = gi σ 74 13 := by rw [s1, gi_si_ne (Or.inl (by decide +kernel)), gi_si_ne (Or.inl (by decide +kernel))]
        rw [g13, if_neg (show ¬ gi σ 74 13 = (100 : Int32) from fun h9 => by rw [h9] at t1; omega), hn2] at h2
        simp only [fl_e] at h2
        rw [gi_si_ne (show (74 : Nat) ≠ 116 ∨ _ from Or.inl (by decide +kernel)), g13, gi_si_eq] at h2
        have s2 : σ2 = si (si σ1 116 n a1) 74 13 ((gi σ 74 13) + (1 : Int32)) := (Prod.mk.inj h2).2.symm
        have p2 : r2 = (gi σ 74 13) + (1 : Int32) := (Prod.mk.inj h2).1.symm
        have gI : ∀ id k, id ≠ 50 → id ≠ 116 → (id ≠ 0 ∨ k ≠ 7) → (id ≠ 74 ∨ k ≠ 13) → gi σ2 id k = gi σ id k := fun id k a b c d => by
          rw [s2, gi_si_ne d, gi_si_ne (Or.inl b), s1, gi_si_ne c, gi_si_ne (Or.inl a)]
        have gR : ∀ id k, gr σ2 id k = gr σ id k := fun id k => by rw [s2, s1]; rfl
        have g7 : gi σ2 0 7 = (gi σ 0 7) + (1 : Int32) := by rw [s2, gi_si_ne (Or.inl (by decide +kernel)), gi_si_ne (Or.inl (by decide +kernel)), s1, gi_si_eq]
        have g74 : gi σ2 74 13 = (gi σ 74 13) + (1 : Int32) := by rw [s2, gi_si_eq]
        obtain ⟨f1, f0, f2, f3⟩ := fl9
        refine ⟨⟨⟨⟨by rw [g7, g74, t9, t8]; omega, fun p hp => ?_⟩, ⟨by rw [gI 0 5 (by decide +kernel) (by decide +kernel) (by decide +kernel) (by decide +kernel), gI 74 11 (by decide +kernel) (by decide +kernel) (by decide +kernel) (by decide +kernel)]; exact f1, by rw [gI 0 5 (by decide +kernel) (by decide +kernel) (by decide +kernel) (by decide +kernel)]; exact f0, fun k hk => by rw [gR]; exact f2 k hk, fun k hk => ?_⟩, FdA_eq (fun id k a c => gI id k (by omega) (by omega) (by omega) (by omega)) b9, LTM_eq (fun k => gI 127 k (by omega) (by omega) (by omega) (by omega)) l9⟩, HLD_eq (by rw [gI 74 12 (by decide +kernel) (by decide +kernel) (by decide +kernel) (by decide +kernel)]) (by rw [gI 74 11 (by decide +kernel) (by decide +kernel) (by decide +kernel) (by decide +kernel)]; exact Int.le_refl _) (gR 1 10) d1, HLD_eq (by rw [gI 74 50 (by decide +kernel) (by decide +kernel) (by decide +kernel) (by decide +kernel)]) (by rw [gI 74 11 (by decide +kernel) (by decide +kernel) (by decide +kernel) (by decide +kernel)]; exact Int.le_refl _) (gR 17 10) d2⟩, ?_⟩
        · rw [g7, t9] at hp
          rw [s2, gi_si_ne (Or.inl (by decide +kernel)), gi_si_ne (Or.inl (by decide +kernel)), gi_si_ne (show (116 : Nat) ≠ 74 ∨ _ from Or.inl (by decide +kernel)), s1, gi_si_ne (Or.inl (by decide +kernel)), gi_si, gi_si]
          by_cases hpn : p = n
          · rw [if_pos ⟨rfl, hpn⟩, if_pos ⟨rfl, hpn⟩]
          · rw [if_neg (fun h9 => hpn h9.2), if_neg (fun h9 => hpn h9.2), gi_si_ne (Or.inl (by decide +kernel)), gi_si_ne (Or.inl (by decide +kernel))]
            exact t2 p (by omega)
        · rw [gI 0 5 (by decide +kernel) (by decide +kernel) (by decide +kernel) (by decide +kernel)] at hk
          obtain ⟨cl, hcl⟩ := f3 k hk
          exact ⟨cl, FDS_eq (fun id j a c => gI id j (by omega) (by omega) (by omega) (by omega)) (fun id j a c _ => gI id j (by omega) (by omega) (by omega) (by omega)) (fun j _ => gI 122 j (by omega) (by omega) (by omega) (by omega)) (gI 117 k (by omega) (by omega) (by omega) (by omega)) hcl⟩
        · rw [p1, p2]; exact Int32.toInt_inj.mp (by omega)
      · have c3' : ¬ (gi σ 0 7).toInt < (100 : Int32).toInt := fun h9 => c3 (Int32.lt_iff_toInt_lt.mpr h9)
        rw [if_neg c3] at h1
        cases h1
        rw [if_pos (show gi σ 74 13 = (100 : Int32) from Int32.toInt_inj.mp (by omega))] at h2
        cases h2
        exact ⟨q0, rfl⟩
    · have c2' : ¬ a1.toInt ≤ (127 : Int32).toInt := fun h9 => c2 (Int32.le_iff_toInt_le.mpr h9)
      rw [if_neg c2] at h1
      rw [if_pos (show (127 : Int32) < a1 from Int32.lt_iff_toInt_lt.mpr (by omega)), fb_e, if_pos rfl] at h2
      cases h1; cases h2
      exact ⟨q0, rfl⟩
/-! the field that is read, alike in both -/
noncomputable def FLDR (σ : Sg) (f : Nat) (r : Int32) (σ' : Sg) : Prop := ∃ (σ2 : Sg) (r2 : Int32), F_X2_reads f 50 (gi σ 0 7) σ = (r2, σ2) ∧ ((r2 = 0 ∧ r = (-10 : Int32) - gi σ2 f 11 ∧ σ' = si σ2 0 7 (0 : Int32)) ∨ (¬ r2 = 0 ∧ σ' = si (sr (si σ2 0 7 (0 : Int32)) 1 10 (some f)) 0 5 ((gi σ 0 5) + (1 : Int32)) ∧ r = ((gi σ 0 5) + (1 : Int32)) - (1 : Int32)))
noncomputable def FLDC (σ : Sg) (r : Int32) (σ' : Sg) : Prop := (¬ (gi σ 0 5).toInt < 6 ∧ r = (-4 : Int32) ∧ σ' = σ) ∨ ((gi σ 0 5).toInt < 6 ∧ ∃ (f : Nat) (σ1 : Sg), ((gr σ 49 (gi σ 0 5).toNatClampNeg = some f ∧ σ1 = σ) ∨ (gr σ 49 (gi σ 0 5).toNatClampNeg = none ∧ f = 1000 + 5 * (gi σ 0 5).toNatClampNeg ∧ σ1 = sr (fnew σ f) 49 (gi σ 0 5).toNatClampNeg (some f))) ∧ FLDR σ1 f r σ')
set_option maxHeartbeats 4000000 in
theorem RF_field {r1 r2 : Int32} {σ σ1 σ2 : Sg} (h5 : 0 ≤ (gi σ 0 5).toInt) (h7 : 0 ≤ (gi σ 0 7).toInt ∧ (gi σ 0 7).toInt ≤ 100) (hb : ∀ p, p < 100 → 0 ≤ (gi σ 116 p).toInt ∧ (gi σ 116 p).toInt ≤ 127) (q : RF σ) (h1 : FLDC σ r1 σ1) (h2 : F_X12_field σ1 = (r2, σ2)) : RF σ2 ∧ r1 = r2 := by
  obtain ⟨⟨⟨t1, t2⟩, ⟨f1, f0, f2, f3⟩, b9, l9⟩, d1, d2⟩ := id q
  have z6 : (6 : Int32).toInt = 6 := rfl
  have ec := cl_eq (x := gi σ 0 5) h5
  obtain ⟨n, hn⟩ : ∃ n : Nat, n = (gi σ 0 5).toNatClampNeg := ⟨_, rfl⟩
  rcases h1 with ⟨c, rfl, rfl⟩ | ⟨c, f, σ0, hs, σr, rr, e1, e2⟩
  · unfold F_X12_field at h2
    rw [if_pos (show gi σ1 74 11 = (6 : Int32) from Int32.toInt_inj.mp (by omega))] at h2
    cases h2
    exact ⟨q, rfl⟩
  rw [← hn] at hs ec
  have hf : f = 1000 + 5 * n := by
    rcases hs with ⟨a, -⟩ | ⟨-, a, -⟩
    · rcases f2 n (by omega) with h9 | h9
      · rw [h9] at a; cases a
      · rw [h9] at a; exact (Option.some.inj a).symm
    · exact a
  have gI0 : ∀ id k, ¬ (f ≤ id ∧ id ≤ f + 4) → gi σ0 id k = gi σ id k := by
    intro id k hid
    rcases hs with ⟨-, a⟩ | ⟨-, -, a⟩
    · rw [a]
    · rw [a, gi_sr]; exact fn_i hid
  have gR0 : ∀ id k, id ≠ 49 → id ≠ f → gr σ0 id k = gr σ id k := by
    intro id k hid hid2
    rcases hs with ⟨-, a⟩ | ⟨-, -, a⟩
    · rw [a]
    · rw [a, gr_sr, if_neg (fun z => hid z.1), fn_r, if_neg hid2]
  have g49 : ∀ k, gr σ0 49 k = if k = n then some f else gr σ 49 k := by
    intro k
    rcases hs with ⟨b, a⟩ | ⟨-, -, a⟩
    · by_cases hk : k = n
      · rw [if_pos hk, a, hk]; exact b
      · rw [if_neg hk, a]
    · rw [a, gr_sr]
      by_cases hk : k = n
      · rw [if_pos ⟨rfl, hk⟩, if_pos hk]
      · rw [if_neg (fun z => hk z.2), if_neg hk, fn_r, if_neg (by omega)]
  have ed := cl_eq (x := gi σ 0 7) h7.1
  obtain ⟨e, he⟩ : ∃ e : Nat, e = (gi σ 0 7).toNatClampNeg := ⟨_, rfl⟩
  rw [← he] at ed
  have ht : ∀ p, p < e → (gi σ0 50 p).toInt = (gi σ 116 p).toInt := fun p hp => by rw [gI0 50 p (by omega)]; exact t2 p (by omega)
  have C := readsC (c0 := f) (e := e) (σ := σ0) (a2 := gi σ0 0 7) (by omega) (by rw [gI0 0 7 (by omega)]; omega) (by omega) (fun p hp => by rw [ht p hp]; exact hb p (by omega))
  obtain ⟨nx, enx⟩ : ∃ nx, nx = txn (fun p => gi σ0 50 p) e := ⟨_, rfl⟩
  rw [← enx] at C
  have nx1 : ∀ τ : Sg, (∀ p, gi τ 116 p = gi σ 116 p) → txn (fun p => gi τ 116 p) e = nx := by
    intro τ hτ
    rw [enx]
    funext p
    unfold txn
    by_cases hp : p < e
    · rw [if_pos hp, if_pos hp]
      show (gi τ 116 p).toInt = (gi σ0 50 p).toInt
      rw [hτ, ht p hp]
    · rw [if_neg hp, if_neg hp]
  have g05 : gi σ0 0 5 = gi σ 0 5 := gI0 0 5 (by omega)
  by_cases ok : (ptext nx e 10 0 []).1 = true
  · obtain ⟨σ', c1, c2, c3, c4, c5, c6⟩ := C.1 ok
    rw [c1] at e1
    obtain ⟨rfl, rfl⟩ := Prod.mk.inj e1
    rcases e2 with ⟨h9, -⟩ | ⟨-, es, er⟩
    · exact absurd h9 (by decide +kernel)
    rw [g05] at es er
    have t9 : ((gi σ 0 5) + (1 : Int32)).toInt = (gi σ 0 5).toInt + 1 := i_add (y := (1 : Int32)) (by show (_ : Int) ≤ (gi σ 0 5).toInt + 1; omega) (by show (gi σ 0 5).toInt + 1 ≤ (_ : Int); omega)
    have t8 : (((gi σ 0 5) + (1 : Int32)) - (1 : Int32)).toInt = ((gi σ 0 5) + (1 : Int32)).toInt - 1 := i_pred (by omega)
    have gI1 : ∀ id k, ¬ (f ≤ id ∧ id ≤ f + 4) → id ≠ 0 → gi σ1 id k = gi σ id k := fun id k a b => by
      rw [es, gi_si_ne (Or.inl b), gi_sr, gi_si_ne (Or.inl b), FX_i c6 (by omega) (by show ¬ id = f; omega), gI0 id k a]
    have gF1 : ∀ id k, f ≤ id → gi σ1 id k = gi σ' id k := fun id k a => by
      rw [es, gi_si_ne (Or.inl (by omega)), gi_sr, gi_si_ne (Or.inl (by omega))]
    have gR1 : ∀ id k, id ≠ 1 → id < f → gr σ1 id k = gr σ0 id k := fun id k a b => by
      rw [es, gr_si, gr_sr, if_neg (fun z => a z.1), gr_si]
      exact FX_r c6 (by omega) (by show ¬ id = f; omega)
    have r110 : gr σ1 1 10 = some f := by rw [es, gr_si, gr_sr, if_pos ⟨rfl, rfl⟩]
    have g74 : ∀ k, gi σ1 74 k = gi σ 74 k := fun k => gI1 74 k (by omega) (by decide +kernel)
    have M := goesM (σ := σ1) (e := e) (f := n) (a1 := gi σ1 74 11) (by rw [g74]; omega) (by omega) (fun p hp => by rw [gI1 116 p (by omega) (by decide +kernel)]; exact hb p (by omega)) (LTM_eq (fun k => gI1 127 k (by omega) (by decide +kernel)) l9) (by rw [g74]; omega) (by omega)
    rw [nx1 σ1 (fun p => gI1 116 p (by omega) (by decide +kernel))] at M
    obtain ⟨σm, m1, m2, m3, m4⟩ := M.1 ok
    unfold F_X12_field at h2
    rw [if_neg (show ¬ gi σ1 74 11 = (6 : Int32) from fun h9 => by rw [g74] at h9; rw [h9] at f1; omega), m1, fb_e] at h2
    simp only [fl_e] at h2
    rw [if_neg (show ¬ (1 : Int32) = 0 by decide +kernel)] at h2
    have gm : ∀ k, k ≠ 14 → k ≠ 15 → k ≠ 24 → k ≠ 25 → k ≠ 26 → gi σm 74 k = gi σ 74 k := fun k a b c d e9 => by
      rw [FX_i m4 (by decide +kernel) (by rintro (⟨-, h9⟩ | ⟨h9, -⟩ | ⟨h9, -⟩ | ⟨h9, -⟩) <;> omega), g74]
    have x11 : gi (si σm 74 13 (0 : Int32)) 74 11 = gi σ 74 11 := by rw [gi_si_ne (Or.inr (by decide +kernel))]; exact gm 11 (by decide +kernel) (by decide +kernel) (by decide +kernel) (by decide +kernel) (by decide +kernel)
    have x11b : gi (si (si σm 74 13 (0 : Int32)) 74 12 (gi σ 74 11)) 74 11 = gi σ 74 11 := by rw [gi_si_ne (Or.inr (by decide +kernel))]; exact x11
    rw [x11, x11b] at h2
    have s2 : σ2 = si (si (si σm 74 13 (0 : Int32)) 74 12 (gi σ 74 11)) 74 11 ((gi σ 74 11) + (1 : Int32)) := (Prod.mk.inj h2).2.symm
    have p2 : r2 = gi σ 74 11 := by
      rw [← (Prod.mk.inj h2).1, gi_si_ne (Or.inr (by decide +kernel)), gi_si_eq]
    have t7 : ((gi σ 74 11) + (1 : Int32)).toInt = (gi σ 74 11).toInt + 1 := i_add (y := (1 : Int32)) (by show (_ : Int) ≤ (gi σ 74 11).toInt + 1; omega) (by show (gi σ 74 11).toInt + 1 ≤ (_ : Int); omega)
    have g2o : ∀ id k, id ≠ 74 → gi σ2 id k = gi σm id k := fun id k a => by rw [s2, gi_si_ne (Or.inl a), gi_si_ne (Or.inl a), gi_si_ne (Or.inl a)]
    have g2m : ∀ id k, id < 117 ∨ 123 < id → id ≠ 74 → gi σ2 id k = gi σ1 id k := fun id k a b => by
      rw [g2o id k b, FX_i m4 (show ¬ id = 123 by omega) (by rintro (⟨h9, -⟩ | ⟨h9, -⟩ | ⟨h9, -⟩ | ⟨h9, -⟩) <;> omega)]
    have q11 : gi σ2 74 11 = (gi σ 74 11) + (1 : Int32) := by rw [s2, gi_si_eq]
    have q12 : gi σ2 74 12 = gi σ 74 11 := by rw [s2, gi_si_ne (Or.inr (by decide +kernel)), gi_si_eq]
    have q13 : gi σ2 74 13 = 0 := by rw [s2, gi_si_ne (Or.inr (by decide +kernel)), gi_si_ne (Or.inr (by decide +kernel)), gi_si_eq]
    have q50 : gi σ2 74 50 = gi σ 74 50 := by rw [s2, gi_si_ne (Or.inr (by decide +kernel)), gi_si_ne (Or.inr (by decide +kernel)), gi_si_ne (Or.inr (by decide +kernel))]; exact gm 50 (by decide +kernel) (by decide +kernel) (by decide +kernel) (by decide +kernel) (by decide +kernel)
    have q05 : gi σ2 0 5 = (gi σ 0 5) + (1 : Int32) := by rw [g2m 0 5 (by decide +kernel) (by decide +kernel), es, gi_si_eq]
    have q07 : gi σ2 0 7 = 0 := by rw [g2m 0 7 (by decide +kernel) (by decide +kernel), es, gi_si_ne (Or.inr (by decide +kernel)), gi_sr, gi_si_eq]
    have gR2 : ∀ id k, gr σ2 id k = gr σm id k := fun id k => by rw [s2]; rfl
    have gR3 : ∀ id k, id ≠ 123 → id ≠ 74 → id < 117 ∨ 123 < id → gr σm id k = gr σ1 id k := fun id k a b c => FX_r m4 a (by rintro (⟨h9, -⟩ | ⟨h9, -⟩ | ⟨h9, -⟩ | ⟨h9, -⟩) <;> omega)
    have old : ∀ k cl, k < n → FDS σ k cl → FDS σ2 k cl := fun k cl hk h => by
      refine FDS_eq (fun id j a b => ?_) (fun id j a b c => ?_) (fun j hj => ?_) ?_ h
      · rw [g2m id j (by omega) (by omega)]; exact gI1 id j (by omega) (by omega)
      · rw [g2o id j (by omega), FX_i m4 (show ¬ id = 123 by omega) (by rintro (⟨h9, -⟩ | ⟨h9, -⟩ | ⟨-, h9⟩ | ⟨h9, -⟩) <;> omega)]; exact gI1 id j (by omega) (by omega)
      · rw [g2o 122 j (by decide +kernel), FX_i m4 (by decide +kernel) (by rintro (⟨h9, -⟩ | ⟨-, h9⟩ | ⟨h9, -⟩ | ⟨h9, -⟩) <;> omega)]; exact gI1 122 j (by omega) (by decide +kernel)
      · rw [g2o 117 k (by decide +kernel), FX_i m4 (by decide +kernel) (by rintro (⟨h9, -⟩ | ⟨h9, -⟩ | ⟨h9, -⟩ | ⟨-, h9⟩) <;> omega)]; exact gI1 117 k (by omega) (by decide +kernel)
    have new : FDS σ2 n (ptext nx e 10 0 []).2.2 := by
      refine ⟨?_, ?_, ?_, c5, ptext_PW 10 0 [] (fun c hc => absurd hc List.not_mem_nil) ok, ?_⟩
      · rw [← hf]
        exact FdA_eq (fun id j a b => by rw [g2m id j (by omega) (by omega)]; exact gF1 id j a) ⟨c3, c4, c2.cd⟩
      · exact ClsM_eq (fun i id _ a b => g2o id _ (by omega)) (fun j _ => g2o 122 j (by decide +kernel)) m2
      · rw [g2o 117 n (by decide +kernel)]; exact m3
      · have := c2.ll; omega
    refine ⟨⟨⟨⟨by rw [q07, q13], fun p hp => ?_⟩, ⟨by rw [q05, q11]; omega, by rw [q05]; omega, fun k hk => ?_, fun k hk => ?_⟩, FdA_eq (fun id j a b => by rw [g2m id j (by omega) (by omega)]; exact gI1 id j (by omega) (by omega)) b9, LTM_eq (fun k => by rw [g2m 127 k (by decide +kernel) (by decide +kernel)]; exact gI1 127 k (by omega) (by decide +kernel)) l9⟩, Or.inr ⟨n, by rw [q12]; omega, by rw [q11]; omega, ?_⟩, HLD_eq (by rw [q50]) (by rw [q11]; omega) ?_ d2⟩, ?_⟩
    · rw [q07] at hp
      have hp : (p : Int) < 0 := hp
      omega
    · rw [gR2, gR3 49 k (by decide +kernel) (by decide +kernel) (by decide +kernel), gR1 49 k (by decide +kernel) (by omega), g49]
      by_cases z : k = n
      · rw [if_pos z, z, hf]; exact Or.inr rfl
      · rw [if_neg z]; exact f2 k hk
    · rw [q05] at hk
      by_cases z : k = n
      · rw [z]; exact ⟨_, new⟩
      · obtain ⟨cl, hcl⟩ := f3 k (by omega)
        exact ⟨cl, old k cl (by omega) hcl⟩
    · rw [gR2, gR3 1 10 (by decide +kernel) (by decide +kernel) (by decide +kernel), r110, hf]
    · rw [gR2, gR3 17 10 (by decide +kernel) (by decide +kernel) (by decide +kernel), gR1 17 10 (by decide +kernel) (by omega), gR0 17 10 (by decide +kernel) (by omega)]
    · rw [er, p2]; exact Int32.toInt_inj.mp (by omega)
  · obtain ⟨σ', c1, c2, c6⟩ := C.2 (Bool.eq_false_iff.mpr ok)
    rw [c1] at e1
    obtain ⟨rfl, rfl⟩ := Prod.mk.inj e1
    rcases e2 with ⟨-, er, es⟩ | ⟨h9, -⟩
    rotate_left
    · exact absurd rfl h9
    have gI1 : ∀ id k, ¬ (f ≤ id ∧ id ≤ f + 4) → id ≠ 0 → gi σ1 id k = gi σ id k := fun id k a b => by
      rw [es, gi_si_ne (Or.inl b), FX_i c6 (by omega) (by show ¬ id = f; omega), gI0 id k a]
    have gR1 : ∀ id k, id < f → gr σ1 id k = gr σ0 id k := fun id k b => by
      rw [es, gr_si]
      exact FX_r c6 (by omega) (by show ¬ id = f; omega)
    have g74 : ∀ k, gi σ1 74 k = gi σ 74 k := fun k => gI1 74 k (by omega) (by decide +kernel)
    have M := goesM (σ := σ1) (e := e) (f := n) (a1 := gi σ1 74 11) (by rw [g74]; omega) (by omega) (fun p hp => by rw [gI1 116 p (by omega) (by decide +kernel)]; exact hb p (by omega)) (LTM_eq (fun k => gI1 127 k (by omega) (by decide +kernel)) l9) (by rw [g74]; omega) (by omega)
    rw [nx1 σ1 (fun p => gI1 116 p (by omega) (by decide +kernel))] at M
    obtain ⟨σm, m1, m2, m4⟩ := M.2 (Bool.eq_false_iff.mpr ok)
    unfold F_X12_field at h2
    rw [if_neg (show ¬ gi σ1 74 11 = (6 : Int32) from fun h9 => by rw [g74] at h9; rw [h9] at f1; omega), m1, fb_e] at h2
    simp only [fl_e] at h2
    rw [if_pos trivial] at h2
    have gm : ∀ k, k ≠ 14 → k ≠ 15 → k ≠ 24 → k ≠ 25 → k ≠ 26 → gi σm 74 k = gi σ 74 k := fun k a b c d e9 => by
      rw [FX_i m4 (by decide +kernel) (by rintro (⟨-, h9⟩ | ⟨h9, -⟩ | ⟨h9, -⟩ | ⟨h9, -⟩) <;> omega), g74]
    have s2 : σ2 = si σm 74 13 (0 : Int32) := (Prod.mk.inj h2).2.symm
    have p2 : r2 = (-10 : Int32) - gi σm 74 14 := by
      rw [← (Prod.mk.inj h2).1, gi_si_ne (Or.inr (by decide +kernel))]
    have g2o : ∀ id k, id ≠ 74 → gi σ2 id k = gi σm id k := fun id k a => by rw [s2, gi_si_ne (Or.inl a)]
    have g2m : ∀ id k, id < 117 ∨ 123 < id → id ≠ 74 → gi σ2 id k = gi σ1 id k := fun id k a b => by
      rw [g2o id k b, FX_i m4 (show ¬ id = 123 by omega) (by rintro (⟨h9, -⟩ | ⟨h9, -⟩ | ⟨h9, -⟩ | ⟨h9, -⟩) <;> omega)]
    have q74 : ∀ k, k = 11 ∨ k = 12 ∨ k = 50 → gi σ2 74 k = gi σ 74 k := fun k hk => by
      rw [s2, gi_si_ne (Or.inr (by omega))]; exact gm k (by omega) (by omega) (by omega) (by omega) (by omega)
    have q13 : gi σ2 74 13 = 0 := by rw [s2, gi_si_eq]
    have q05 : gi σ2 0 5 = gi σ 0 5 := by rw [g2m 0 5 (by decide +kernel) (by decide +kernel), es, gi_si_ne (Or.inr (by decide +kernel)), FX_i c6 (by omega) (by show ¬ 0 = f; omega)]; exact g05
    have q07 : gi σ2 0 7 = 0 := by rw [g2m 0 7 (by decide +kernel) (by decide +kernel), es, gi_si_eq]
    have gR2 : ∀ id k, gr σ2 id k = gr σm id k := fun id k => by rw [s2]; rfl
    have gR3 : ∀ id k, id ≠ 123 → id ≠ 74 → id < 117 ∨ 123 < id → gr σm id k = gr σ1 id k := fun id k a b c => FX_r m4 a (by rintro (⟨h9, -⟩ | ⟨h9, -⟩ | ⟨h9, -⟩ | ⟨h9, -⟩) <;> omega)
    have old : ∀ k cl, k < n → FDS σ k cl → FDS σ2 k cl := fun k cl hk h => by
      refine FDS_eq (fun id j a b => ?_) (fun id j a b c => ?_) (fun j hj => ?_) ?_ h
      · rw [g2m id j (by omega) (by omega)]; exact gI1 id j (by omega) (by omega)
      · rw [g2o id j (by omega), FX_i m4 (show ¬ id = 123 by omega) (by rintro (⟨h9, -⟩ | ⟨h9, -⟩ | ⟨-, h9⟩ | ⟨h9, -⟩) <;> omega)]; exact gI1 id j (by omega) (by omega)
      · rw [g2o 122 j (by decide +kernel), FX_i m4 (by decide +kernel) (by rintro (⟨h9, -⟩ | ⟨-, h9⟩ | ⟨h9, -⟩ | ⟨h9, -⟩) <;> omega)]; exact gI1 122 j (by omega) (by decide +kernel)
      · rw [g2o 117 k (by decide +kernel), FX_i m4 (by decide +kernel) (by rintro (⟨h9, -⟩ | ⟨h9, -⟩ | ⟨h9, -⟩ | ⟨-, h9⟩) <;> omega)]; exact gI1 117 k (by omega) (by decide +kernel)
    refine ⟨⟨⟨⟨by rw [q07, q13], fun p hp => ?_⟩, ⟨by rw [q05, q74 11 (by decide +kernel)]; exact f1, by rw [q05]; exact f0, fun k hk => ?_, fun k hk => ?_⟩, FdA_eq (fun id j a b => by rw [g2m id j (by omega) (by omega)]; exact gI1 id j (by omega) (by omega)) b9, LTM_eq (fun k => by rw [g2m 127 k (by decide +kernel) (by decide +kernel)]; exact gI1 127 k (by omega) (by decide +kernel)) l9⟩, HLD_eq (by rw [q74 12 (by decide +kernel)]) (by rw [q74 11 (by decide +kernel)]; exact Int.le_refl _) ?_ d1, HLD_eq (by rw [q74 50 (by decide +kernel)]) (by rw [q74 11 (by decide +kernel)]; exact Int.le_refl _) ?_ d2⟩, ?_⟩
    · rw [q07] at hp
      have hp : (p : Int) < 0 := hp
      omega
    · rw [gR2, gR3 49 k (by decide +kernel) (by decide +kernel) (by decide +kernel), gR1 49 k (by omega), g49]
      by_cases z : k = n
      · rw [if_pos z, z, hf]; exact Or.inr rfl
      · rw [if_neg z]; exact f2 k hk
    · rw [q05] at hk
      obtain ⟨cl, hcl⟩ := f3 k hk
      exact ⟨cl, old k cl (by omega) hcl⟩
    · rw [gR2, gR3 1 10 (by decide +kernel) (by decide +kernel) (by decide +kernel), gR1 1 10 (by omega), gR0 1 10 (by decide +kernel) (by omega)]
    · rw [gR2, gR3 17 10 (by decide +kernel) (by decide +kernel) (by decide +kernel), gR1 17 10 (by omega), gR0 17 10 (by decide +kernel) (by omega)]
    · rw [er, p2]
      exact congrArg (fun z => (-10 : Int32) - z) (Int32.toInt_inj.mp (by rw [c2, m2]))
