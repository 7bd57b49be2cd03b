/-! PACE, both ways -/
noncomputable def pstep (L : Nat → Int) (a : Int) (c : Cls) : Int := if c.1 ≤ 1 then (if (eall L c.2.2 []).headD false = true then (if c.1 = 0 then a + (c.2.1 : Int) else a - (c.2.1 : Int)) else a) else a
noncomputable def pos0 (x : Int) : Int := if x ≤ 0 then 0 else x
noncomputable def pacS (L : Nat → Int) (cl : List Cls) : Int := pos0 (cl.foldl (pstep L) 6)
noncomputable def Lt6 (a b c d e g : Int) (f : Nat) : Int := match f with | 0 => a | 1 => b | 2 => c | 3 => d | 4 => e | _ => g
theorem pstep_b {L : Nat → Int} {a k : Int} {c : Cls} (hc : c.2.1 ≤ 99) (h : -k ≤ a ∧ a ≤ k) : -(k + 99) ≤ pstep L a c ∧ pstep L a c ≤ k + 99 := by
  unfold pstep
  repeat' split
  all_goals omega
theorem fold_b {L : Nat → Int} : ∀ (cl : List Cls) (a k : Int), (∀ c ∈ cl, c.2.1 ≤ 99) → -k ≤ a ∧ a ≤ k → -(k + 99 * (cl.length : Int)) ≤ cl.foldl (pstep L) a ∧ cl.foldl (pstep L) a ≤ k + 99 * (cl.length : Int) := by
  intro cl
  induction cl with
  | nil => intro a k _ h; show -(k + 99 * ((0 : Nat) : Int)) ≤ a ∧ a ≤ k + 99 * ((0 : Nat) : Int); omega
  | cons c cl ih =>
    intro a k hc h
    have h1 := pstep_b (L := L) (hc c List.mem_cons_self) h
    have h2 := ih (pstep L a c) (k + 99) (fun d hd => hc d (List.mem_cons_of_mem _ hd)) h1
    rw [List.length_cons, List.foldl_cons]
    omega
theorem pacS_b {L : Nat → Int} {cl : List Cls} (hc : PW cl) (hl : cl.length ≤ 10) : 0 ≤ pacS L cl ∧ pacS L cl ≤ 996 := by
  have h := fold_b (L := L) cl 6 6 (fun c h => (hc c h).2.1) (by omega)
  unfold pacS pos0
  split <;> omega
theorem take_pc {α : Type} {c : α} {l : List α} : ∀ pre : List α, (pre ++ c :: l).take (pre.length + 1) = pre ++ [c] := by
  intro pre
  induction pre with
  | nil => rfl
  | cons x xs ih =>
    show x :: ((xs ++ c :: l).take (xs.length + 1)) = _
    rw [ih]; rfl
theorem get_pc {α : Type} {c : α} {l pre : List α} : (pre ++ c :: l)[pre.length]? = some c := by
  rw [List.getElem?_append_right (Nat.le_refl _), Nat.sub_self]; rfl
theorem toks_ap2 {a b : List Cls} : toksOf (a ++ b) = toksOf a ++ toksOf b := by
  unfold toksOf
  rw [List.map_append, List.flatten_append]
theorem toks_cons {c : Cls} {l : List Cls} : toksOf (c :: l) = c.2.2 ++ toksOf l := by
  unfold toksOf; rw [List.map_cons, List.flatten_cons]
theorem toks_mid {pre l : List Cls} {c : Cls} {j : Nat} {t : Tok} (h : c.2.2[j]? = some t) : (toksOf (pre ++ c :: l))[(toksOf pre).length + j]? = some t := by
  have hj := (List.getElem?_eq_some_iff.mp h).1
  rw [toks_ap2, toks_cons, List.getElem?_append_right (by omega), show (toksOf pre).length + j - (toksOf pre).length = j from by omega, List.getElem?_append_left hj]
  exact h
set_option maxHeartbeats 4000000 in
theorem paceC {c0 a3 : Nat} {L : Nat → Int} {σ : Sg} {cl : List Cls} (hA : FdA σ c0 cl) (hW : PW cl) (hl : cl.length ≤ 10) (hT : (toksOf cl).length ≤ 100) (hL : ∀ f, f ≤ 5 → (gi σ a3 f).toInt = L f) (hLb : ∀ f, f ≤ 5 → 0 ≤ L f ∧ L f ≤ 200000) :
    ∀ (l pre : List Cls) (n : Nat) (x2 x3 x4 z0 z1 : Int32) (a : Int), cl = pre ++ l → x2.toInt = a → -(6 + 99 * (pre.length : Int)) ≤ a ∧ a ≤ 6 + 99 * (pre.length : Int) → x3.toInt = ((toksOf pre).length : Int) → x4.toInt = (pre.length : Int) → 2 * l.length + 2 ≤ n →
      ∃ r, LF_X2_paceOf c0 a3 n 0 x2 x3 x4 z0 z1 σ = (r, σ) ∧ r.toInt = pos0 (l.foldl (pstep L) a) := by
  obtain ⟨⟨a1, a2⟩, -, d1, d2⟩ := hA
  have z0' : (0 : Int32).toInt = 0 := rfl
  have z1' : (1 : Int32).toInt = 1 := rfl
  intro l
  induction l with
  | nil =>
    intro pre n x2 x3 x4 z0 z1 a e hx2 hb hx3 hx4 hn
    rw [List.append_nil] at e
    obtain ⟨n, rfl⟩ : ∃ k, n = k + 1 := ⟨n - 1, by omega⟩
    show ∃ r, LB_X2_paceOf_8 c0 a3 (LF_X2_paceOf c0 a3 n) x2 x3 x4 σ = (r, σ) ∧ r.toInt = pos0 a
    unfold LB_X2_paceOf_8 pos0
    rw [if_pos (show gi σ c0 8 ≤ x4 from Int32.le_iff_toInt_le.mpr (by rw [e] at a1; omega))]
    by_cases q : a ≤ 0
    · rw [if_pos (show x2 ≤ 0 from Int32.le_iff_toInt_le.mpr (by omega)), if_pos q]; exact ⟨_, rfl, rfl⟩
    · rw [if_neg (show ¬ x2 ≤ 0 from fun h9 => by have := Int32.le_iff_toInt_le.mp h9; omega), if_neg q]; exact ⟨_, rfl, hx2⟩
  | cons c l ih =>
    intro pre n x2 x3 x4 z0 z1 a e hx2 hb hx3 hx4 hn
    rw [List.length_cons] at hn
    obtain ⟨n, rfl⟩ : ∃ k, n = k + 2 := ⟨n - 2, by omega⟩
    have hg : cl[pre.length]? = some c := by rw [e]; exact get_pc
    have hcm : c ∈ cl := List.mem_of_getElem? hg
    obtain ⟨w1, w2, w3, w4⟩ := hW c hcm
    obtain ⟨g1, g2, g3⟩ := a2 _ _ hg
    rw [e, take_pc, toksOf_ap, List.length_append] at g3
    have hlen : cl.length = pre.length + (l.length + 1) := by rw [e, List.length_append]; rfl
    have htk : (toksOf cl).length = (toksOf pre).length + (c.2.2.length + (toksOf l).length) := by rw [e, toks_ap2, toks_cons, List.length_append, List.length_append]
    have ec := cl_eq (x := x4) (by omega)
    have ek : x4.toNatClampNeg = pre.length := by omega
    have t9 : (x4 + (1 : Int32)).toInt = x4.toInt + 1 := i_add (y := (1 : Int32)) (by show (_ : Int) ≤ x4.toInt + 1; omega) (by show x4.toInt + 1 ≤ (_ : Int); omega)
    have hpl : ((pre ++ [c]).length : Int) = (pre.length : Int) + 1 := by rw [List.length_append]; show ((pre.length + 1 : Nat) : Int) = _; omega
    have hb2 := pstep_b (L := L) w2 hb
    have next : ∀ (n9 : Nat) (v1 v3 : Int32), v1.toInt = pstep L a c → v3 = gi σ (c0 + 4) pre.length → 2 * l.length + 2 ≤ n9 → ∀ y0 y1, ∃ r, LF_X2_paceOf c0 a3 n9 0 v1 v3 (x4 + 1) y0 y1 σ = (r, σ) ∧ r.toInt = pos0 ((c :: l).foldl (pstep L) a) := by
      intro n9 v1 v3 h1 h3 hn9 y0 y1
      exact ih (pre ++ [c]) n9 v1 v3 (x4 + 1) y0 y1 (pstep L a c) (by rw [e, List.append_assoc]; rfl) h1 (by rw [hpl]; omega) (by rw [h3, g3, toksOf_ap, List.length_append]) (by rw [t9, hpl]; omega) hn9
    show ∃ r, LB_X2_paceOf_8 c0 a3 (LF_X2_paceOf c0 a3 (n + 1)) x2 x3 x4 σ = (r, σ) ∧ _
    unfold LB_X2_paceOf_8
    rw [if_neg (show ¬ gi σ c0 8 ≤ x4 from fun h9 => by have := Int32.le_iff_toInt_le.mp h9; omega), ek]
    by_cases hw : c.1 ≤ 1
    · rw [if_neg (show ¬ (1 : Int32) < gi σ (c0 + 2) pre.length from fun h9 => by have := Int32.lt_iff_toInt_lt.mp h9; omega)]
      have H : F_X2_holds c0 x3 (gi σ (c0 + 4) pre.length) a3 σ = (bIn ((eall L c.2.2 []).headD false), σ) := by
        unfold F_X2_holds
        exact holdsC hL hLb (by omega) (by rw [g3, d1]; omega) c.2.2 [] 900 (0 : Int32) x3 0 (toksOf pre).length (w3 hw 0) (by decide) rfl hx3 (by rw [g3]) (fun j t hj => d2 _ t (by rw [e]; exact toks_mid hj)) (by omega)
      rw [H, fb_e]
      have ps : pstep L a c = if (eall L c.2.2 []).headD false = true then (if c.1 = 0 then a + (c.2.1 : Int) else a - (c.2.1 : Int)) else a := by unfold pstep; rw [if_pos hw]
      by_cases hh : (eall L c.2.2 []).headD false = true
      · rw [if_pos hh] at ps
        rw [hh, if_neg (show ¬ bIn true = 0 by decide)]
        by_cases hz : c.1 = 0
        · rw [if_pos hz] at ps
          rw [if_pos (show gi σ (c0 + 2) pre.length = 0 from Int32.toInt_inj.mp (by omega))]
          show ∃ r, LB_X2_paceOf_73 c0 a3 (LF_X2_paceOf c0 a3 n) x4 (gi σ (c0 + 3) pre.length) x2 σ = (r, σ) ∧ _
          unfold LB_X2_paceOf_73
          rw [ek, fl_e, fl_e, fl_e]
          exact next n _ _ (by rw [i_add (by omega) (by omega), ps]; omega) rfl (by omega) 0 0
        · rw [if_neg hz] at ps
          rw [if_neg (show ¬ gi σ (c0 + 2) pre.length = 0 from fun h9 => by rw [h9] at g1; omega)]
          show ∃ r, LB_X2_paceOf_73 c0 a3 (LF_X2_paceOf c0 a3 n) x4 (-(gi σ (c0 + 3) pre.length)) x2 σ = (r, σ) ∧ _
          unfold LB_X2_paceOf_73
          rw [ek, fl_e, fl_e, fl_e]
          have ng : (-(gi σ (c0 + 3) pre.length)).toInt = -(gi σ (c0 + 3) pre.length).toInt := i_neg (by omega)
          exact next n _ _ (by rw [i_add (by omega) (by omega), ng, ps]; omega) rfl (by omega) 0 0
      · rw [if_neg hh] at ps
        have hh' : (eall L c.2.2 []).headD false = false := Bool.eq_false_iff.mpr hh
        rw [hh', if_pos (show bIn false = 0 from rfl), fl_e, fl_e]
        exact next (n + 1) _ _ (by rw [ps]; exact hx2) rfl (by omega) 0 0
    · have ps : pstep L a c = a := by unfold pstep; rw [if_neg hw]
      rw [if_pos (show (1 : Int32) < gi σ (c0 + 2) pre.length from Int32.lt_iff_toInt_lt.mpr (by omega)), fl_e, fl_e]
      exact next (n + 1) _ _ (by rw [ps]; exact hx2) rfl (by omega) 0 0
/-- the clauses that hold in the model -/
noncomputable def MH (σ : Sg) (cl : List Cls) : Prop := ((gi σ 74 12).toInt = -1 ∧ cl = []) ∨ ∃ k : Nat, (gi σ 74 12).toInt = (k : Int) ∧ k ≤ 5 ∧ ClsM σ k cl ∧ (gi σ 117 k).toInt = (cl.length : Int)
noncomputable def bgn (σ : Sg) : Nat := 10 * (gi σ 74 12).toNatClampNeg
theorem MH_beg {σ : Sg} {cl : List Cls} (h : MH σ cl) (hl : cl.length ≤ 10) (hT : (toksOf cl).length ≤ 100) : ∃ r1 r2 : Int32, F_X12_begin σ = (r1, σ) ∧ F_X12_behind σ = (r2, σ) ∧ r1.toInt = (bgn σ : Int) ∧ r2.toInt = (bgn σ : Int) + (cl.length : Int) ∧ bgn σ ≤ 50 ∧ ∀ i c, cl[i]? = some c → (gi σ 118 (bgn σ + i)).toInt = (c.1 : Int) ∧ (gi σ 119 (bgn σ + i)).toInt = (c.2.1 : Int) ∧ (c.1 ≤ 1 → ∃ lo : Nat, lo + c.2.2.length ≤ 600 ∧ (gi σ 120 (bgn σ + i)).toInt = (lo : Int) ∧ (gi σ 121 (bgn σ + i)).toInt = ((lo + c.2.2.length : Nat) : Int) ∧ ∀ j t, c.2.2[j]? = some t → gi σ 122 (lo + j) = encM t) := by
  have z0 : (0 : Int32).toInt = 0 := rfl
  unfold F_X12_begin F_X12_behind
  rcases h with ⟨a, rfl⟩ | ⟨k, a, b, c, d⟩
  · have q : ¬ (0 : Int32) ≤ gi σ 74 12 := fun h9 => by have := Int32.le_iff_toInt_le.mp h9; omega
    have e : bgn σ = 0 := by
      unfold bgn
      have : (gi σ 74 12).toNatClampNeg = 0 := by show (gi σ 74 12).toInt.toNat = 0; omega
      omega
    rw [if_neg q, if_neg q, e]
    exact ⟨_, _, rfl, rfl, rfl, rfl, by decide, fun i c hi => by rw [List.getElem?_nil] at hi; cases hi⟩
  · have q : (0 : Int32) ≤ gi σ 74 12 := Int32.le_iff_toInt_le.mpr (by omega)
    have ec := cl_eq (x := gi σ 74 12) (by omega)
    have e : (gi σ 74 12).toNatClampNeg = k := by omega
    have m1 : ((10 : Int32) * (gi σ 74 12)).toInt = 10 * (gi σ 74 12).toInt := i_mull rfl (by omega) (by omega)
    have eb : bgn σ = 10 * k := by unfold bgn; rw [e]
    rw [if_pos q, if_pos q, e, eb]
    refine ⟨_, _, rfl, rfl, by rw [m1]; omega, by rw [i_add (by omega) (by omega), m1, d]; omega, by omega, fun i cc hi => ?_⟩
    obtain ⟨p1, p2, p3, p4⟩ := c i cc hi
    have tk := toks_take hi
    exact ⟨p1, p2, fun hw => ⟨_, by omega, (p3 hw).1, (p3 hw).2, p4⟩⟩
theorem MH_eq {σ σ' : Sg} {cl : List Cls} (h1 : gi σ' 74 12 = gi σ 74 12) (h2 : ∀ id k, 117 ≤ id → id ≤ 122 → gi σ' id k = gi σ id k) (h : MH σ cl) : MH σ' cl := by
  rcases h with ⟨a, b⟩ | ⟨k, a, b, c, d⟩
  · exact Or.inl ⟨by rw [h1]; exact a, b⟩
  · exact Or.inr ⟨k, by rw [h1]; exact a, b, ClsM_eq (fun i id _ a b => h2 id _ (by omega) (by omega)) (fun j _ => h2 122 j (by decide) (by decide)) c, by rw [h2 117 k (by decide) (by decide)]; exact d⟩
theorem bgn_p {σ σ' : Sg} (f : FXp σ σ') : bgn σ' = bgn σ := by unfold bgn; rw [FXp_i f (by decide)]
theorem MH_p {σ σ' : Sg} {cl : List Cls} (f : FXp σ σ') (h : MH σ cl) : MH σ' cl := MH_eq (FXp_i f (by decide)) (fun id k a b => FXp_i f (by omega)) h
theorem most0 {x : Int32} {a : Int} {σ : Sg} (h : x.toInt = a) : ∃ r, F_X12_most (0 : Int32) x σ = (r, σ) ∧ r.toInt = pos0 a := by
  have z0 : (0 : Int32).toInt = 0 := rfl
  unfold F_X12_most pos0
  by_cases q : (0 : Int32) ≤ x
  · have := Int32.le_iff_toInt_le.mp q
    rw [if_pos q]
    by_cases q2 : a ≤ 0
    · rw [if_pos q2]; exact ⟨_, rfl, by omega⟩
    · rw [if_neg q2]; exact ⟨_, rfl, h⟩
  · have : ¬ (0 : Int32).toInt ≤ x.toInt := fun h9 => q (Int32.le_iff_toInt_le.mpr h9)
    rw [if_neg q, if_pos (show a ≤ 0 by omega)]
    exact ⟨_, rfl, rfl⟩
set_option maxHeartbeats 4000000 in
theorem paceM {L : Nat → Int} {x1 mm : Int32} {B : Nat} {cl : List Cls} (hW : PW cl) (hl : cl.length ≤ 10) (hT : (toksOf cl).length ≤ 100) :
    ∀ (l pre : List Cls) (n : Nat) (x2 x3 : Int32) (a : Int) (σ : Sg), cl = pre ++ l → MH σ cl → bgn σ = B → gi σ 110 x1.toNatClampNeg = mm → FCM L mm σ → x2.toInt = a → -(6 + 99 * (pre.length : Int)) ≤ a ∧ a ≤ 6 + 99 * (pre.length : Int) → x3.toInt = (B : Int) + (pre.length : Int) → l.length < n →
      ∃ r σ', LF_X12_paceAt n x1 x2 x3 σ = (r, σ') ∧ r.toInt = pos0 (l.foldl (pstep L) a) ∧ FXp σ σ' := by
  have z0' : (0 : Int32).toInt = 0 := rfl
  have z1' : (1 : Int32).toInt = 1 := rfl
  intro l
  induction l with
  | nil =>
    intro pre n x2 x3 a σ e h hB hm hF hx2 hb hx3 hn
    rw [List.append_nil] at e
    obtain ⟨n, rfl⟩ : ∃ k, n = k + 1 := ⟨n - 1, by omega⟩
    obtain ⟨r1, r2, b1, b2, b3, b4, b5, b6⟩ := MH_beg h hl hT
    rw [hB] at b4
    show ∃ r σ', LB_X12_paceAt_13 (LF_X12_paceAt n) x1 x2 x3 σ = (r, σ') ∧ r.toInt = pos0 a ∧ _
    unfold LB_X12_paceAt_13
    rw [b2, fb_e, if_pos (show r2 ≤ x3 from Int32.le_iff_toInt_le.mpr (by rw [e] at b4; omega))]
    obtain ⟨r, m1, m2⟩ := most0 (σ := σ) hx2
    rw [m1, fb_e]
    exact ⟨r, σ, rfl, m2, FXp_rf⟩
  | cons c l ih =>
    intro pre n x2 x3 a σ e h hB hm hF hx2 hb hx3 hn
    rw [List.length_cons] at hn
    obtain ⟨n, rfl⟩ : ∃ k, n = k + 1 := ⟨n - 1, by omega⟩
    obtain ⟨r1, r2, b1, b2, b3, b4, b5, b6⟩ := MH_beg h hl hT
    rw [hB] at b4 b5 b6
    have hg : cl[pre.length]? = some c := by rw [e]; exact get_pc
    have hcm : c ∈ cl := List.mem_of_getElem? hg
    obtain ⟨w1, w2, w3, w4⟩ := hW c hcm
    obtain ⟨g1, g2, g3⟩ := b6 _ _ hg
    have hlen : cl.length = pre.length + (l.length + 1) := by rw [e, List.length_append]; rfl
    have ec := cl_eq (x := x3) (by omega)
    have ek : x3.toNatClampNeg = B + pre.length := by omega
    have t9 : (x3 + (1 : Int32)).toInt = x3.toInt + 1 := i_add (y := (1 : Int32)) (by show (_ : Int) ≤ x3.toInt + 1; omega) (by show x3.toInt + 1 ≤ (_ : Int); omega)
    have hpl : ((pre ++ [c]).length : Int) = (pre.length : Int) + 1 := by rw [List.length_append]; show ((pre.length + 1 : Nat) : Int) = _; omega
    have hb2 := pstep_b (L := L) w2 hb
    have next : ∀ (v1 : Int32) (σ1 : Sg), v1.toInt = pstep L a c → FXp σ σ1 → ∃ r σ', LF_X12_paceAt n x1 v1 (x3 + 1) σ1 = (r, σ') ∧ r.toInt = pos0 ((c :: l).foldl (pstep L) a) ∧ FXp σ σ' := by
      intro v1 σ1 h1 f
      obtain ⟨r, σ', k1, k2, k3⟩ := ih (pre ++ [c]) n v1 (x3 + 1) (pstep L a c) σ1 (by rw [e, List.append_assoc]; rfl) (MH_p f h) (by rw [bgn_p f]; exact hB) (by rw [FXp_i f (by decide)]; exact hm) (FCM_p hF f) h1 (by rw [hpl]; omega) (by rw [t9, hpl]; omega) (by omega)
      exact ⟨r, σ', k1, k2, FXp_tr f k3⟩
    show ∃ r σ', LB_X12_paceAt_13 (LF_X12_paceAt n) x1 x2 x3 σ = (r, σ') ∧ _
    unfold LB_X12_paceAt_13
    rw [b2, fb_e, if_neg (show ¬ r2 ≤ x3 from fun h9 => by have := Int32.le_iff_toInt_le.mp h9; omega), ek]
    by_cases hw : c.1 ≤ 1
    · rw [if_neg (show ¬ (1 : Int32) < gi σ 118 (B + pre.length) from fun h9 => by have := Int32.lt_iff_toInt_lt.mp h9; omega)]
      obtain ⟨lo, l1, l2, l3, l4⟩ := g3 hw
      have elo := cl_eq (x := gi σ 120 (B + pre.length)) (by omega)
      obtain ⟨σ9, h1, h2⟩ := holdsM (c := B + pre.length) (L := L) (x1 := x3) (x2 := mm) ek c.2.2 [] 700 (0 : Int32) (gi σ 120 (B + pre.length)) lo σ (w3 hw 0) (by decide) rfl l2 l3 (by omega) l4 trivial hF (by omega)
      have H : F_X12_holds x3 (gi σ 110 x1.toNatClampNeg) σ = (bIn ((eall L c.2.2 []).headD false), σ9) := by
        unfold F_X12_holds
        rw [fl_e, ek, hm]
        exact h1
      rw [H, fb_e]
      have ps : pstep L a c = if (eall L c.2.2 []).headD false = true then (if c.1 = 0 then a + (c.2.1 : Int) else a - (c.2.1 : Int)) else a := by unfold pstep; rw [if_pos hw]
      by_cases hh : (eall L c.2.2 []).headD false = true
      · rw [if_pos hh] at ps
        rw [hh, if_neg (show ¬ bIn true = 0 by decide), FXp_i h2 (by decide), FXp_i h2 (by decide)]
        by_cases hz : c.1 = 0
        · rw [if_pos hz] at ps
          rw [if_pos (show gi σ 118 (B + pre.length) = 0 from Int32.toInt_inj.mp (by omega)), fl_e, fl_e]
          exact next _ _ (by rw [i_add (by omega) (by omega), ps]; omega) h2
        · rw [if_neg hz] at ps
          have ng : (-(gi σ 119 (B + pre.length))).toInt = -(gi σ 119 (B + pre.length)).toInt := i_neg (by omega)
          rw [if_neg (show ¬ gi σ 118 (B + pre.length) = 0 from fun h9 => by rw [h9] at g1; omega), fl_e, fl_e]
          exact next _ _ (by rw [i_add (by omega) (by omega), ng, ps]; omega) h2
      · rw [if_neg hh] at ps
        have hh' : (eall L c.2.2 []).headD false = false := Bool.eq_false_iff.mpr hh
        rw [hh', if_pos (show bIn false = 0 from rfl), fl_e]
        exact next _ _ (by rw [ps]; exact hx2) h2
    · have ps : pstep L a c = a := by unfold pstep; rw [if_neg hw]
      rw [if_pos (show (1 : Int32) < gi σ 118 (B + pre.length) from Int32.lt_iff_toInt_lt.mpr (by omega)), fl_e]
      exact next _ _ (by rw [ps]; exact hx2) FXp_rf
