/-! the model's clauses, its text -/
noncomputable def FXt (σ σ' : Sg) : Prop := FX (fun _ => False) (fun id k => id = 74 ∧ (k = 14 ∨ k = 15)) σ σ'
theorem FXt_rf {σ : Sg} : FXt σ σ := FX_rf
theorem FXt_tr {σ σ1 σ2 : Sg} (f : FXt σ σ1) (g : FXt σ1 σ2) : FXt σ σ2 := FX_tr f g (fun _ h => h) (fun _ _ h => Or.inr h)
theorem nextT {nx e b p σ} (hx : NXo nx e) (h : RtM nx e b p σ) : ∃ r : Int32, F_X12_next σ = (r, σ) ∧ r.toInt = nx p := by
  unfold F_X12_next
  have a := h.at_
  have b := h.en
  by_cases q : (gi σ 74 13) ≤ (gi σ 74 14)
  · have q' := Int32.le_iff_toInt_le.mp q
    rw [if_pos q]
    exact ⟨_, rfl, (hx.hn p (by omega)).symm⟩
  · have q' : ¬ (gi σ 74 13).toInt ≤ (gi σ 74 14).toInt := fun h9 => q (Int32.le_iff_toInt_le.mpr h9)
    rw [if_neg q]
    have ec := cl_eq (x := gi σ 74 14) (by omega)
    exact ⟨_, rfl, by rw [show (gi σ 74 14).toNatClampNeg = p from by omega]; exact h.tx p (by omega)⟩
theorem advT {nx e b p σ} (hx : NXo nx e) (h : RtM nx e b p σ) (hp : p < e) : RtM nx e b (p + 1) (si σ 74 14 ((gi σ 74 14) + (1 : Int32))) ∧ FXt σ (si σ 74 14 ((gi σ 74 14) + (1 : Int32))) := by
  have a := h.at_
  have l := hx.le
  have t1 : ((gi σ 74 14) + (1 : Int32)).toInt = (gi σ 74 14).toInt + 1 := i_add (y := (1 : Int32)) (by show (_ : Int) ≤ (gi σ 74 14).toInt + 1; omega) (by show (gi σ 74 14).toInt + 1 ≤ (_ : Int); omega)
  have bb := h.bb
  refine ⟨⟨?_, ?_, ?_, ?_, hp, by omega⟩, FX_si FX_rf (Or.inr ⟨rfl, Or.inl rfl⟩)⟩
  · rw [gi_si_ne (Or.inr (by decide))]; exact h.en
  · intro q hq; rw [gi_si_ne (Or.inl (by decide))]; exact h.tx q hq
  · rw [gi_si_eq, t1]; omega
  · rw [gi_si_ne (Or.inr (by decide))]; exact h.cn
theorem digitT {nx e b p σ} (hx : NXo nx e) (h : RtM nx e b p σ) : F_X12_isDigit σ = (if dig (nx p) = true then 1 else 0, σ) := by
  obtain ⟨r, e1, e2⟩ := nextT hx h
  unfold F_X12_isDigit F_X12_in
  rw [e1, fb_e]
  have z1 : (48 : Int32).toInt = 48 := rfl
  have z2 : (57 : Int32).toInt = 57 := rfl
  by_cases q1 : r < (48 : Int32)
  · have q1' := Int32.lt_iff_toInt_lt.mp q1
    rw [if_pos q1, if_neg (show ¬ dig (nx p) = true from fun h9 => by have := of_decide_eq_true h9; omega), fb_e]
  · have q1' : ¬ r.toInt < (48 : Int32).toInt := fun h9 => q1 (Int32.lt_iff_toInt_lt.mpr h9)
    rw [if_neg q1]
    by_cases q2 : (57 : Int32) < r
    · have q2' := Int32.lt_iff_toInt_lt.mp q2
      rw [if_pos q2, if_neg (show ¬ dig (nx p) = true from fun h9 => by have := of_decide_eq_true h9; omega), fb_e]
    · have q2' : ¬ (57 : Int32).toInt < r.toInt := fun h9 => q2 (Int32.lt_iff_toInt_lt.mpr h9)
      rw [if_neg q2, if_pos (show dig (nx p) = true from decide_eq_true (by omega)), fb_e]
theorem takesT_t {nx e b p σ} {op : Int32} {c : Int} (hx : NXo nx e) (h : RtM nx e b p σ) (ho : op.toInt = c) (h0 : 0 ≤ c) (q : nx p = c) : F_X12_takes op σ = (1, si σ 74 14 ((gi σ 74 14) + (1 : Int32))) ∧ RtM nx e b (p + 1) (si σ 74 14 ((gi σ 74 14) + (1 : Int32))) ∧ FXt σ (si σ 74 14 ((gi σ 74 14) + (1 : Int32))) := by
  obtain ⟨r, e1, e2⟩ := nextT hx h
  refine ⟨?_, advT hx h (ltC hx q h0)⟩
  unfold F_X12_takes
  rw [e1, fb_e, if_pos (Int32.toInt_inj.mp (by rw [e2, ho, q])), fl_e]
theorem takesT_f {nx e b p σ} {op : Int32} {c : Int} (hx : NXo nx e) (h : RtM nx e b p σ) (ho : op.toInt = c) (q : ¬ nx p = c) : F_X12_takes op σ = (0, σ) := by
  obtain ⟨r, e1, e2⟩ := nextT hx h
  unfold F_X12_takes
  rw [e1, fb_e, if_neg (fun h9 => q (by rw [← e2, h9, ho]))]
theorem digsT {nx e b p σ} {v : Int32} (h : RtM nx e b p σ) : RtM nx e b p (si σ 74 15 v) ∧ FXt σ (si σ 74 15 v) := by
  refine ⟨⟨?_, ?_, ?_, ?_, h.le, h.bb⟩, FX_si FX_rf (Or.inr ⟨rfl, by decide⟩)⟩
  · rw [gi_si_ne (Or.inr (by decide))]; exact h.en
  · intro q hq; rw [gi_si_ne (Or.inl (by decide))]; exact h.tx q hq
  · rw [gi_si_ne (Or.inr (by decide))]; exact h.at_
  · rw [gi_si_ne (Or.inr (by decide))]; exact h.cn
theorem digT1 {nx e b p σ} {d : Nat} (hx : NXo nx e) (h : RtM nx e b p σ) (hd : dig (nx p) = true) (h15 : (gi σ 74 15).toInt = (d : Int)) (hd9 : d ≤ 9) (n : Nat) (x1 : Int32) (hx1 : ¬ (2 : Int32) ≤ x1) :
    ∃ σ', LF_X12_takesNumber (n + 1) x1 σ = LF_X12_takesNumber n (x1 + 1) σ' ∧ RtM nx e b (p + 1) σ' ∧ (gi σ' 74 15).toInt = ((10 * d + (nx p - 48).toNat : Nat) : Int) ∧ FXt σ σ' := by
  have b0 := of_decide_eq_true hd
  have hp : p < e := ltC hx rfl (by omega)
  obtain ⟨r, s1, s2⟩ := nextT hx h
  have z48 : (48 : Int32).toInt = 48 := rfl
  have m1 : ((10 : Int32) * (gi σ 74 15)).toInt = 10 * (gi σ 74 15).toInt := i_mull rfl (by omega) (by omega)
  have m2 : (((10 : Int32) * (gi σ 74 15)) + r).toInt = ((10 : Int32) * (gi σ 74 15)).toInt + r.toInt := i_add (by omega) (by omega)
  have m3 : ((((10 : Int32) * (gi σ 74 15)) + r) - (48 : Int32)).toInt = (((10 : Int32) * (gi σ 74 15)) + r).toInt - 48 := i_sub (y := (48 : Int32)) (by show (_ : Int) ≤ (((10 : Int32) * (gi σ 74 15)) + r).toInt - 48; omega) (by show (((10 : Int32) * (gi σ 74 15)) + r).toInt - 48 ≤ (_ : Int); omega)
  obtain ⟨a1, a2⟩ := digsT (v := (((10 : Int32) * (gi σ 74 15)) + r) - (48 : Int32)) h
  obtain ⟨c1, c2⟩ := advT hx a1 hp
  refine ⟨_, ?_, c1, ?_, FXt_tr a2 c2⟩
  · show LB_X12_takesNumber_16 (LF_X12_takesNumber n) x1 σ = _
    unfold LB_X12_takesNumber_16
    rw [if_neg hx1, digitT hx h, if_pos hd, fb_e, if_neg (show ¬ (1 : Int32) = 0 by decide), s1, fb_e, fl_e, fl_e, fl_e]
  · rw [gi_si_ne (Or.inr (by decide)), gi_si_eq, m3, m2, m1, h15, s2]
    omega
theorem numT {nx e b p σ} (hx : NXo nx e) (h : RtM nx e b p σ) :
    ((pnum nx p).1 = true → ∃ σ', F_X12_takesNumber σ = (1, σ') ∧ (gi σ' 74 15).toInt = ((pnum nx p).2.2 : Int) ∧ (pnum nx p).2.2 ≤ 99 ∧ RtM nx e b (pnum nx p).2.1 σ' ∧ FXt σ σ' ∧ p + 1 ≤ (pnum nx p).2.1) ∧ ((pnum nx p).1 = false → F_X12_takesNumber σ = (0, σ) ∧ (pnum nx p).2.1 = p) := by
  unfold F_X12_takesNumber
  rw [digitT hx h, fb_e]
  by_cases d0 : dig (nx p) = true
  · have b0 := of_decide_eq_true d0
    rw [if_pos d0, if_neg (show ¬ (1 : Int32) = 0 by decide), fl_e]
    obtain ⟨a1, a2⟩ := digsT (v := 0) h
    obtain ⟨σ1, e1, c1, c2, c3⟩ := digT1 (d := 0) hx a1 d0 (by rw [gi_si_eq]; rfl) (by decide) 8 0 (by decide)
    rw [e1, show (0 : Int32) + 1 = 1 from by decide]
    by_cases d1 : dig (nx (p + 1)) = true
    · have b1 := of_decide_eq_true d1
      have ep : pnum nx p = (true, p + 2, 10 * (nx p - 48).toNat + (nx (p + 1) - 48).toNat) := by unfold pnum; rw [if_pos d0, if_pos d1]
      obtain ⟨σ2, e2, g1, g2, g3⟩ := digT1 (d := 10 * 0 + (nx p - 48).toNat) hx c1 d1 c2 (by omega) 7 1 (by decide)
      rw [e2, show (1 : Int32) + 1 = 2 from by decide, ep]
      have e3 : LF_X12_takesNumber 7 2 σ2 = (1, σ2) := by
        show LB_X12_takesNumber_16 (LF_X12_takesNumber 6) 2 σ2 = _
        unfold LB_X12_takesNumber_16
        rw [if_pos (by decide)]
      refine ⟨fun _ => ⟨σ2, e3, ?_, ?_, g1, FXt_tr a2 (FXt_tr c3 g3), by show p + 1 ≤ p + 2; omega⟩, fun h9 => by cases h9⟩
      · rw [g2]; show ((10 * (10 * 0 + (nx p - 48).toNat) + (nx (p + 1) - 48).toNat : Nat) : Int) = ((10 * (nx p - 48).toNat + (nx (p + 1) - 48).toNat : Nat) : Int); omega
      · show 10 * (nx p - 48).toNat + (nx (p + 1) - 48).toNat ≤ 99; omega
    · have ep : pnum nx p = (true, p + 1, (nx p - 48).toNat) := by unfold pnum; rw [if_pos d0, if_neg d1]
      have e3 : LF_X12_takesNumber 8 1 σ1 = (1, σ1) := by
        show LB_X12_takesNumber_16 (LF_X12_takesNumber 7) 1 σ1 = _
        unfold LB_X12_takesNumber_16
        rw [if_neg (by decide), digitT hx c1, if_neg d1, fb_e, if_pos rfl]
      rw [ep]
      refine ⟨fun _ => ⟨σ1, e3, ?_, ?_, c1, FXt_tr a2 c3, Nat.le_refl _⟩, fun h9 => by cases h9⟩
      · rw [c2]; show ((10 * 0 + (nx p - 48).toNat : Nat) : Int) = (((nx p - 48).toNat : Nat) : Int); omega
      · show (nx p - 48).toNat ≤ 99; omega
  · have ep : pnum nx p = (false, p, 0) := by unfold pnum; rw [if_neg d0]
    rw [ep, if_neg d0, if_pos rfl]
    exact ⟨fun h9 => (by cases h9), fun _ => ⟨rfl, rfl⟩⟩
noncomputable def ltrs : List Int := [102, 97, 115, 116, 115, 108, 111, 119, 103, 97, 112, 116, 105, 114, 101, 108, 111, 110, 103]
/-- the model's letters -/
noncomputable def LTM (σ : Sg) : Prop := ∀ j c, ltrs[j]? = some c → (gi σ 127 j).toInt = c
theorem ltrs_ge : ∀ j, j < 19 → 0 ≤ ltrs.getD j 0 := by decide
theorem ltrs_0 {j : Nat} {c : Int} (h : ltrs[j]? = some c) : 0 ≤ c := by
  have hj : j < 19 := (List.getElem?_eq_some_iff.mp h).1
  have := ltrs_ge j hj
  rw [List.getD_eq_getElem?_getD, h] at this
  exact this
theorem LTM_eq {σ σ' : Sg} (h : ∀ k, gi σ' 127 k = gi σ 127 k) (q : LTM σ) : LTM σ' := fun j c hj => by rw [h]; exact q j c hj
theorem wordT {nx e b} {x1 x2 : Int32} {a z : Nat} (hx : NXo nx e) (h1 : x1.toInt = (a : Int)) (h2 : x2.toInt = (z : Int)) (ha : a ≤ 100) (hz : z ≤ 100) : ∀ (l : List Int) n p σ (x3 : Int32) (i : Nat), RtM nx e b p σ → LTM σ → x3.toInt = (i : Int) → i + l.length = z → l.length < n → (∀ j c, l[j]? = some c → ltrs[a + i + j]? = some c) →
    ((pmatch nx (l ++ [32]) p).1 = true → ∃ σ', LF_X12_takesWord n x1 x2 x3 σ = (1, σ') ∧ RtM nx e b (pmatch nx (l ++ [32]) p).2 σ' ∧ FXt σ σ') ∧ ((pmatch nx (l ++ [32]) p).1 = false → ∃ σ', LF_X12_takesWord n x1 x2 x3 σ = (0, σ') ∧ (gi σ' 74 14).toInt = ((pmatch nx (l ++ [32]) p).2 : Int) ∧ FXt σ σ') := by
  intro l
  induction l with
  | nil =>
    intro n p σ x3 i h hL h3 hl hn _
    obtain ⟨n, rfl⟩ : ∃ k, n = k + 1 := ⟨n - 1, by have : ([] : List Int).length = 0 := rfl; omega⟩
    have hl : i + 0 = z := hl
    have E : LF_X12_takesWord (n + 1) x1 x2 x3 σ = F_X12_takes (32 : Int32) σ := by
      show LB_X12_takesWord_2 (LF_X12_takesWord n) x1 x2 x3 σ = _
      unfold LB_X12_takesWord_2
      rw [if_pos (Int32.le_iff_toInt_le.mpr (by omega))]
      rfl
    rw [E]
    show ((if nx p = 32 then pmatch nx [] (p + 1) else (false, p)).1 = true → _) ∧ _
    by_cases q : nx p = 32
    · obtain ⟨t1, t2, t3⟩ := takesT_t hx h (op := 32) rfl (by decide) q
      have ep : pmatch nx ([] ++ [32]) p = (true, p + 1) := if_pos q
      rw [t1, ep]
      exact ⟨fun _ => ⟨_, rfl, t2, t3⟩, fun h9 => by cases h9⟩
    · have ep : pmatch nx ([] ++ [32]) p = (false, p) := if_neg q
      rw [takesT_f hx h (op := 32) rfl q, ep, if_neg q]
      exact ⟨fun h9 => (by cases h9), fun _ => ⟨σ, rfl, h.at_, FXt_rf⟩⟩
  | cons c l ih =>
    intro n p σ x3 i h hL h3 hl hn hb
    rw [List.length_cons] at hl hn
    obtain ⟨n, rfl⟩ : ∃ k, n = k + 1 := ⟨n - 1, by omega⟩
    have b1 : ltrs[a + i]? = some c := hb 0 c rfl
    have b2 := hL _ _ b1
    have s1 : (x1 + x3).toInt = x1.toInt + x3.toInt := i_add (by omega) (by omega)
    have ec := cl_eq (x := x1 + x3) (by omega)
    have E : LF_X12_takesWord (n + 1) x1 x2 x3 σ = fb (F_X12_takes (gi σ 127 (a + i)) σ) (fun r6 σ5 => (if r6 = 0 then ((0 : Int32), σ5) else fl (x3 + 1) (fun v8 => LF_X12_takesWord n x1 x2 v8 σ5))) := by
      show LB_X12_takesWord_2 (LF_X12_takesWord n) x1 x2 x3 σ = _
      unfold LB_X12_takesWord_2
      rw [if_neg (fun h9 => by have := Int32.le_iff_toInt_le.mp h9; omega), show (x1 + x3).toNatClampNeg = a + i from by omega]
    rw [E]
    by_cases q : nx p = c
    · have ep : pmatch nx (c :: l ++ [32]) p = pmatch nx (l ++ [32]) (p + 1) := if_pos q
      obtain ⟨t1, t2, t3⟩ := takesT_t hx h b2 (ltrs_0 b1) q
      rw [ep, t1, fb_e, if_neg (show ¬ (1 : Int32) = 0 by decide), fl_e]
      have t9 : (x3 + (1 : Int32)).toInt = x3.toInt + 1 := i_add (y := (1 : Int32)) (by show (_ : Int) ≤ x3.toInt + 1; omega) (by show x3.toInt + 1 ≤ (_ : Int); omega)
      have k := ih n (p + 1) _ (x3 + 1) (i + 1) t2 (LTM_eq (fun k => gi_si_ne (Or.inl (by decide))) hL) (by rw [t9]; omega) (by omega) (by omega) (fun j c' hj => by
        have := hb (j + 1) c' hj
        rw [show a + i + (j + 1) = a + (i + 1) + j from by omega] at this
        exact this)
      refine ⟨fun h9 => ?_, fun h9 => ?_⟩
      · obtain ⟨σ', k1, k2, k3⟩ := k.1 h9
        exact ⟨σ', k1, k2, FXt_tr t3 k3⟩
      · obtain ⟨σ', k1, k2, k3⟩ := k.2 h9
        exact ⟨σ', k1, k2, FXt_tr t3 k3⟩
    · have ep : pmatch nx (c :: l ++ [32]) p = (false, p) := if_neg q
      rw [ep, takesT_f hx h b2 q, fb_e, if_pos rfl]
      exact ⟨fun h9 => (by cases h9), fun _ => ⟨σ, rfl, h.at_, FXt_rf⟩⟩
/-- what a clause c leaves alone in the model -/
noncomputable def FXk (b c : Nat) (σ σ' : Sg) : Prop := FX (fun id => id = 123) (fun id k => (id = 74 ∧ (k = 14 ∨ k = 15 ∨ k = 24 ∨ k = 25 ∨ k = 26)) ∨ (id = 122 ∧ b ≤ k) ∨ ((id = 118 ∨ id = 119 ∨ id = 120 ∨ id = 121) ∧ k = c)) σ σ'
theorem FXk_tr {b c : Nat} {σ σ1 σ2 : Sg} (f : FXk b c σ σ1) (g : FXk b c σ1 σ2) : FXk b c σ σ2 := FX_tr f g (fun _ h => h) (fun _ _ h => Or.inr h)
theorem FXk_t {b c : Nat} {σ σ1 : Sg} (f : FXt σ σ1) : FXk b c σ σ1 := FX_tr FX_rf f (fun _ h => h.elim) (fun _ _ h => Or.inr (Or.inl ⟨h.1, h.2.elim Or.inl (fun h => Or.inr (Or.inl h))⟩))
theorem FXk_f {b c : Nat} {σ σ1 : Sg} (f : FXf b c σ σ1) : FXk b c σ σ1 := FX_tr FX_rf f (fun _ h => h) (fun _ _ h => Or.inr (h.elim Or.inl (fun h => h.elim (fun h => Or.inr (Or.inl h)) (fun h => h.elim (fun h => Or.inr (Or.inr ⟨Or.inr (Or.inr (Or.inr h.1)), h.2⟩)) (fun h => Or.inr (Or.inr ⟨Or.inr (Or.inr (Or.inl h.1)), h.2⟩))))))
theorem RtM_row {nx e b p σ} {a k : Nat} {v : Int32} (ha : a ≠ 74 ∧ a ≠ 116) (h : RtM nx e b p σ) : RtM nx e b p (si σ a k v) := by
  refine ⟨?_, ?_, ?_, ?_, h.le, h.bb⟩
  · rw [gi_si_ne (Or.inl (Ne.symm ha.1))]; exact h.en
  · intro q hq; rw [gi_si_ne (Or.inl (Ne.symm ha.2))]; exact h.tx q hq
  · rw [gi_si_ne (Or.inl (Ne.symm ha.1))]; exact h.at_
  · rw [gi_si_ne (Or.inl (Ne.symm ha.1))]; exact h.cn
theorem headM {nx e b p σ} {a1 : Int32} (hx : NXo nx e) (h : RtM nx e b p σ) (hL : LTM σ) :
    (wrd (nx p) = none → ∃ σ', F_X12_takesHead a1 σ = (0, σ') ∧ (gi σ' 74 14).toInt = (p : Int) ∧ FXk b a1.toNatClampNeg σ σ')
    ∧ (∀ w, wrd (nx p) = some w → ((pmatch nx (wtx w) p).1 = true → ∃ σ', F_X12_takesHead a1 σ = (1, σ') ∧ RtM nx e b (pmatch nx (wtx w) p).2 σ' ∧ (gi σ' 118 a1.toNatClampNeg).toInt = (w : Int) ∧ FXk b a1.toNatClampNeg σ σ') ∧ ((pmatch nx (wtx w) p).1 = false → ∃ σ', F_X12_takesHead a1 σ = (0, σ') ∧ (gi σ' 74 14).toInt = ((pmatch nx (wtx w) p).2 : Int) ∧ FXk b a1.toNatClampNeg σ σ')) := by
  obtain ⟨r, e1, e2⟩ := nextT hx h
  -- one head: the word's number is noted, then its letters
  have one : ∀ (v x1 x2 : Int32) (a z w : Nat) (l : List Int), x1.toInt = (a : Int) → x2.toInt = (z : Int) → a ≤ 100 → z ≤ 100 → l.length = z → z < 9 → (∀ j c, l[j]? = some c → ltrs[a + j]? = some c) → v.toInt = (w : Int) → ∀ q, q = pmatch nx (l ++ [32]) p →
      (q.1 = true → ∃ σ', fb (F_X12_takesWord x1 x2 (si σ 118 a1.toNatClampNeg v)) (fun r σ => (r, σ)) = ((1 : Int32), σ') ∧ RtM nx e b q.2 σ' ∧ (gi σ' 118 a1.toNatClampNeg).toInt = (w : Int) ∧ FXk b a1.toNatClampNeg σ σ')
      ∧ (q.1 = false → ∃ σ', fb (F_X12_takesWord x1 x2 (si σ 118 a1.toNatClampNeg v)) (fun r σ => (r, σ)) = ((0 : Int32), σ') ∧ (gi σ' 74 14).toInt = (q.2 : Int) ∧ FXk b a1.toNatClampNeg σ σ') := by
    intro v x1 x2 a z w l h1 h2 h3 h4 h5 h6 h7 h8 q hq
    have k := wordT hx h1 h2 h3 h4 l 9 p (si σ 118 a1.toNatClampNeg v) (0 : Int32) 0 (RtM_row ⟨by decide, by decide⟩ h) (LTM_eq (fun k => gi_si_ne (Or.inl (by decide))) hL) rfl (by omega) (by omega) (fun j c hj => by rw [Nat.add_zero]; exact h7 j c hj)
    rw [← hq] at k
    have f0 : FXk b a1.toNatClampNeg σ (si σ 118 a1.toNatClampNeg v) := FX_si FX_rf (Or.inr (Or.inr (Or.inr ⟨Or.inl rfl, rfl⟩)))
    unfold F_X12_takesWord
    refine ⟨fun h9 => ?_, fun h9 => ?_⟩
    · obtain ⟨σ', k1, k2, k3⟩ := k.1 h9
      refine ⟨σ', by rw [k1, fb_e], k2, ?_, FXk_tr f0 (FXk_t k3)⟩
      rw [FX_i k3 (fun h => h) (fun h => absurd h.1 (by decide)), gi_si_eq]; exact h8
    · obtain ⟨σ', k1, k2, k3⟩ := k.2 h9
      exact ⟨σ', by rw [k1, fb_e], k2, FXk_tr f0 (FXk_t k3)⟩
  unfold F_X12_takesHead
  rw [e1, fb_e, e2]
  refine ⟨fun hw => ?_, fun w hw => ?_⟩
  · unfold wrd at hw
    have c1 : ¬ nx p = 102 := fun h9 => by rw [if_pos h9] at hw; cases hw
    rw [if_neg c1] at hw
    have c2 : ¬ nx p = 115 := fun h9 => by rw [if_pos h9] at hw; cases hw
    rw [if_neg c2] at hw
    have c3 : ¬ nx p = 103 := fun h9 => by rw [if_pos h9] at hw; cases hw
    rw [if_neg c3] at hw
    have c4 : ¬ nx p = 116 := fun h9 => by rw [if_pos h9] at hw; cases hw
    rw [if_neg c4] at hw
    have c5 : ¬ nx p = 108 := fun h9 => by rw [if_pos h9] at hw; cases hw
    rw [if_neg c1, if_neg c3, if_neg c2, if_neg c4, fl_e]
    have ep : pmatch nx ([108, 111, 110, 103] ++ [32]) p = (false, p) := if_neg c5
    obtain ⟨σ', k1, k2, k3⟩ := (one 4 15 4 15 4 4 [108, 111, 110, 103] rfl rfl (by decide) (by decide) rfl (by decide) (by intro j c hj; match j, hj with | 0, hj => exact hj | 1, hj => exact hj | 2, hj => exact hj | 3, hj => exact hj) rfl _ rfl).2 (by rw [ep])
    rw [ep] at k2
    exact ⟨σ', k1, k2, k3⟩
  · unfold wrd at hw
    by_cases c1 : nx p = 102
    · rw [if_pos c1] at hw; cases hw
      rw [if_pos c1, fl_e]
      exact one 0 0 4 0 4 0 [102, 97, 115, 116] rfl rfl (by decide) (by decide) rfl (by decide) (by intro j c hj; match j, hj with | 0, hj => exact hj | 1, hj => exact hj | 2, hj => exact hj | 3, hj => exact hj) rfl _ rfl
    rw [if_neg c1] at hw
    by_cases c2 : nx p = 115
    · rw [if_pos c2] at hw; cases hw
      rw [if_neg c1, if_neg (by omega), if_pos c2, fl_e]
      exact one 1 4 4 4 4 1 [115, 108, 111, 119] rfl rfl (by decide) (by decide) rfl (by decide) (by intro j c hj; match j, hj with | 0, hj => exact hj | 1, hj => exact hj | 2, hj => exact hj | 3, hj => exact hj) rfl _ rfl
    rw [if_neg c2] at hw
    by_cases c3 : nx p = 103
    · rw [if_pos c3] at hw; cases hw
      rw [if_neg c1, if_pos c3, fl_e]
      exact one 2 8 3 8 3 2 [103, 97, 112] rfl rfl (by decide) (by decide) rfl (by decide) (by intro j c hj; match j, hj with | 0, hj => exact hj | 1, hj => exact hj | 2, hj => exact hj) rfl _ rfl
    rw [if_neg c3] at hw
    by_cases c4 : nx p = 116
    · rw [if_pos c4] at hw; cases hw
      rw [if_neg c1, if_neg c3, if_neg c2, if_pos c4, fl_e]
      exact one 3 11 4 11 4 3 [116, 105, 114, 101] rfl rfl (by decide) (by decide) rfl (by decide) (by intro j c hj; match j, hj with | 0, hj => exact hj | 1, hj => exact hj | 2, hj => exact hj | 3, hj => exact hj) rfl _ rfl
    rw [if_neg c4] at hw
    by_cases c5 : nx p = 108
    · rw [if_pos c5] at hw; cases hw
      rw [if_neg c1, if_neg c3, if_neg c2, if_neg c4, fl_e]
      exact one 4 15 4 15 4 4 [108, 111, 110, 103] rfl rfl (by decide) (by decide) rfl (by decide) (by intro j c hj; match j, hj with | 0, hj => exact hj | 1, hj => exact hj | 2, hj => exact hj | 3, hj => exact hj) rfl _ rfl
    rw [if_neg c5] at hw; cases hw
/-- the clause c, as it stands in the model's rows -/
noncomputable abbrev ClM (σ : Sg) (c : Nat) (k : Cls) (lo : Nat) : Prop :=
  ((gi σ 118 c).toInt = (k.1 : Int)) ∧ ((gi σ 119 c).toInt = (k.2.1 : Int)) ∧ (k.1 ≤ 1 → (gi σ 120 c).toInt = (lo : Int) ∧ (gi σ 121 c).toInt = ((lo + k.2.2.length : Nat) : Int)) ∧ (∀ j t, k.2.2[j]? = some t → gi σ 122 (lo + j) = encM t)
theorem clauseM {nx e b p σ} {a1 : Int32} (hx : NXo nx e) (h : RtM nx e b p σ) (hL : LTM σ) :
    ((pclause nx p).1 = true → ∃ σ', F_X12_takesClause a1 σ = (1, σ') ∧ RtM nx e (b + (pclause nx p).2.2.2.2.length) (pclause nx p).2.1 σ' ∧ ClM σ' a1.toNatClampNeg (pclause nx p).2.2 b ∧ FXk b a1.toNatClampNeg σ σ')
    ∧ ((pclause nx p).1 = false → ∃ σ', F_X12_takesClause a1 σ = (0, σ') ∧ (gi σ' 74 14).toInt = ((pclause nx p).2.1 : Int) ∧ FXk b a1.toNatClampNeg σ σ') := by
  have q := headM (a1 := a1) hx h hL
  unfold F_X12_takesClause
  cases e1 : wrd (nx p) with
  | none =>
    obtain ⟨σ1, h1, h2, h3⟩ := q.1 e1
    rw [h1, fb_e, if_pos rfl, pcl_n e1]
    exact ⟨fun h9 => (by cases h9), fun _ => ⟨σ1, rfl, h2, h3⟩⟩
  | some w =>
    obtain ⟨w4, -⟩ := wrd_lt e1
    by_cases hm : (pmatch nx (wtx w) p).1 = true
    · obtain ⟨σ1, h1, h2, h3, h4⟩ := (q.2 w e1).1 hm
      rw [h1, fb_e, if_neg (show ¬ (1 : Int32) = 0 by decide)]
      have g := numT hx h2
      by_cases hd : (pnum nx (pmatch nx (wtx w) p).2).1 = true
      · obtain ⟨σ4, d1, d2, d3, d4, d5, d6⟩ := g.1 hd
        rw [d1, fb_e, if_neg (show ¬ (1 : Int32) = 0 by decide), fl_e]
        obtain ⟨σ8, e8⟩ : ∃ σ8, σ8 = si σ4 119 a1.toNatClampNeg (gi σ4 74 15) := ⟨_, rfl⟩
        rw [← e8]
        have r8 : RtM nx e b (pnum nx (pmatch nx (wtx w) p).2).2.1 σ8 := by rw [e8]; exact RtM_row ⟨by decide, by decide⟩ d4
        have f8 : FXk b a1.toNatClampNeg σ σ8 := by
          rw [e8]
          exact FXk_tr h4 (FXk_tr (FXk_t d5) (FX_si FX_rf (Or.inr (Or.inr (Or.inr ⟨Or.inr (Or.inl rfl), rfl⟩)))))
        have w8 : (gi σ8 118 a1.toNatClampNeg).toInt = (w : Int) := by
          rw [e8, gi_si_ne (Or.inl (by decide)), FX_i d5 (fun h => h) (fun h => absurd h.1 (by decide))]; exact h3
        have n8 : (gi σ8 119 a1.toNatClampNeg).toInt = ((pnum nx (pmatch nx (wtx w) p).2).2.2 : Int) := by rw [e8, gi_si_eq]; exact d2
        have z2 : (2 : Int32).toInt = 2 := rfl
        by_cases hw : 2 ≤ w
        · rw [if_pos (Int32.le_iff_toInt_le.mpr (by omega)), pcl_2 e1 hm hd hw]
          refine ⟨fun _ => ⟨σ8, rfl, r8, ⟨w8, n8, fun h9 => absurd h9 (by show ¬ w ≤ 1; omega), fun j t ht => ?_⟩, f8⟩, fun h9 => by cases h9⟩
          have ht : ([] : List Tok)[j]? = some t := ht
          rw [List.getElem?_nil] at ht; cases ht
        · rw [if_neg (fun h9 => by have := Int32.le_iff_toInt_le.mp h9; omega)]
          by_cases hb : nx (pnum nx (pmatch nx (wtx w) p).2).2.1 = 32
          · obtain ⟨t1, t2, t3⟩ := takesT_t hx r8 (op := 32) rfl (by decide) hb
            rw [t1, fb_e, if_neg (show ¬ (1 : Int32) = 0 by decide), pcl_e e1 hm hd hw hb]
            have k := takesE_M (a1 := a1) hx t2
            by_cases hE : (pE nx ((pnum nx (pmatch nx (wtx w) p).2).2.1 + 1)).1 = true
            · obtain ⟨σ', k1, k2, k3, k4, k5, k6⟩ := k.1 hE
              rw [k1, fb_e, if_neg (show ¬ (1 : Int32) = 0 by decide)]
              have fx : FXk b a1.toNatClampNeg σ8 σ' := FXk_tr (FXk_t t3) (FXk_f k6)
              have n9 : ∀ id, id = 118 ∨ id = 119 → ∀ k, gi σ' id k = gi σ8 id k := fun id hid k => by
                rw [FX_i k6 (by show ¬ id = 123; omega) (by rintro (⟨h9, -⟩ | ⟨h9, -⟩ | ⟨h9, -⟩ | ⟨h9, -⟩) <;> omega), gi_si_ne (Or.inl (by omega))]
              exact ⟨fun _ => ⟨σ', rfl, k2, ⟨by rw [n9 118 (Or.inl rfl)]; exact w8, by rw [n9 119 (Or.inr rfl)]; exact n8, fun _ => ⟨k4, k5⟩, k3⟩, FXk_tr f8 fx⟩, fun h9 => by
                have h9 : (pE nx ((pnum nx (pmatch nx (wtx w) p).2).2.1 + 1)).1 = false := h9
                rw [hE] at h9; cases h9⟩
            · obtain ⟨σ', k1, k2, k3⟩ := k.2 (Bool.eq_false_iff.mpr hE)
              rw [k1, fb_e, if_pos rfl]
              exact ⟨fun h9 => absurd h9 hE, fun _ => ⟨σ', rfl, k2, FXk_tr f8 (FXk_tr (FXk_t t3) (FXk_f k3))⟩⟩
          · rw [takesT_f hx r8 (op := 32) rfl hb, fb_e, if_pos rfl, pcl_b e1 hm hd hw hb]
            exact ⟨fun h9 => (by cases h9), fun _ => ⟨σ8, rfl, r8.at_, f8⟩⟩
      · have hd' : (pnum nx (pmatch nx (wtx w) p).2).1 = false := Bool.eq_false_iff.mpr hd
        obtain ⟨r1, r2⟩ := g.2 hd'
        rw [r1, fb_e, if_pos rfl, pcl_d e1 hm hd']
        refine ⟨fun h9 => (by cases h9), fun _ => ⟨σ1, rfl, ?_, h4⟩⟩
        show (gi σ1 74 14).toInt = ((pnum nx (pmatch nx (wtx w) p).2).2.1 : Int)
        rw [r2]; exact h2.at_
    · have hm' : (pmatch nx (wtx w) p).1 = false := Bool.eq_false_iff.mpr hm
      obtain ⟨σ1, h1, h2, h3⟩ := (q.2 w e1).2 hm'
      rw [h1, fb_e, if_pos rfl, pcl_w e1 hm']
      exact ⟨fun h9 => (by cases h9), fun _ => ⟨σ1, rfl, h2, h3⟩⟩
