/-! the reading of E: by parts within parts, and by a pile; both alike -/
noncomputable abbrev Tok := (Nat × Nat × Nat) ⊕ Nat
noncomputable abbrev Tok.T (f s n : Nat) : Tok := Sum.inl (f, s, n)
noncomputable abbrev Tok.N : Tok := Sum.inr 0
noncomputable abbrev Tok.A : Tok := Sum.inr 1
noncomputable abbrev Tok.O : Tok := Sum.inr 2
noncomputable abbrev PRd := Bool × Nat × List Tok
noncomputable def pch (nx : Nat → Int) (op : Int) (tk : Tok) (f : Nat → PRd) : Nat → Nat → PRd
  | 0, p => (true, p, [])
  | n + 1, p => if nx p = op then (if (f (p + 1)).1 = true then ((pch nx op tk f n (f (p + 1)).2.1).1, (pch nx op tk f n (f (p + 1)).2.1).2.1, (f (p + 1)).2.2 ++ tk :: (pch nx op tk f n (f (p + 1)).2.1).2.2) else (false, (f (p + 1)).2.1, [])) else (true, p, [])
noncomputable def pchain (nx : Nat → Int) (op : Int) (tk : Tok) (f : Nat → PRd) (p : Nat) : PRd :=
  if (f p).1 = true then ((pch nx op tk f 101 (f p).2.1).1, (pch nx op tk f 101 (f p).2.1).2.1, (f p).2.2 ++ (pch nx op tk f 101 (f p).2.1).2.2) else (false, (f p).2.1, [])
noncomputable def pboth (nx : Nat → Int) (f : Nat → PRd) (p : Nat) : PRd := pchain nx 38 .A f p
noncomputable def peither (nx : Nat → Int) (f : Nat → PRd) (p : Nat) : PRd := pchain nx 124 .O (pboth nx f) p
noncomputable def ppart (nx : Nat → Int) (test : Nat → PRd) : Nat → Nat → PRd
  | 0, p => test p
  | k + 1, p => if nx p = 33 then (if (ppart nx test k (p + 1)).1 = true then (true, (ppart nx test k (p + 1)).2.1, (ppart nx test k (p + 1)).2.2 ++ [.N]) else (false, (ppart nx test k (p + 1)).2.1, []))
      else if nx p = 40 then (if (peither nx (ppart nx test k) (p + 1)).1 = true then (if nx (peither nx (ppart nx test k) (p + 1)).2.1 = 41 then (true, (peither nx (ppart nx test k) (p + 1)).2.1 + 1, (peither nx (ppart nx test k) (p + 1)).2.2) else (false, (peither nx (ppart nx test k) (p + 1)).2.1, [])) else (false, (peither nx (ppart nx test k) (p + 1)).2.1, []))
      else test p
noncomputable def opn : List Int → Nat
  | [] => 0
  | b :: S => if b = 33 ∨ b = 40 then opn S + 1 else opn S
noncomputable def tokOf (b : Int) : Tok := if b = 33 then .N else if b = 38 then .A else .O
noncomputable def popN : List Int → List Int
  | [] => []
  | b :: S => if b = 33 then popN S else b :: S
noncomputable def nots : List Int → List Tok
  | [] => []
  | b :: S => if b = 33 then .N :: nots S else []
noncomputable def setS (s : Int) : List Int → List Int
  | [] => []
  | b :: S => if b = 38 ∨ (b = 124 ∧ s ≠ 38) then setS s S else b :: S
noncomputable def setO (s : Int) : List Int → List Tok
  | [] => []
  | b :: S => if b = 38 ∨ (b = 124 ∧ s ≠ 38) then tokOf b :: setO s S else []
noncomputable def pend (nx : Nat → Int) (rn : Bool → List Int → Nat → List Tok → PRd) (p : Nat) (o : List Tok) : List Int → PRd
  | [] => (true, p, o)
  | _ :: S => if nx p = 41 then rn false (popN S) (p + 1) (o ++ nots S) else (false, p, [])
noncomputable def prun (nx : Nat → Int) (test : Nat → PRd) : Nat → Bool → List Int → Nat → List Tok → PRd
  | 0, _, _, p, _ => (false, p, [])
  | n + 1, true, S, p, o => if nx p = 33 ∨ nx p = 40 then (if opn S = 4 then (false, p, []) else prun nx test n true (nx p :: S) (p + 1) o)
      else if (test p).1 = true then prun nx test n false (popN S) (test p).2.1 (o ++ (test p).2.2 ++ nots S) else (false, (test p).2.1, [])
  | n + 1, false, S, p, o => if nx p = 38 ∨ nx p = 124 then prun nx test n true (nx p :: setS (nx p) S) (p + 1) (o ++ setO (nx p) S)
      else pend nx (prun nx test n) p (o ++ setO 124 S) (setS 124 S)
noncomputable def Rch (nx : Nat → Int) (test : Nat → PRd) (w : Bool) (S : List Int) (p : Nat) (o : List Tok) (w' : Bool) (S' : List Int) (p' : Nat) (o' : List Tok) : Prop :=
  ∃ j, p + j ≤ p' ∧ ∀ k, prun nx test (j + k) w S p o = prun nx test k w' S' p' o'
noncomputable def Fls (nx : Nat → Int) (test : Nat → PRd) (w : Bool) (S : List Int) (p : Nat) (o : List Tok) (p' : Nat) : Prop :=
  ∃ j, p + j ≤ p' ∧ ∀ k, prun nx test (j + 1 + k) w S p o = (false, p', [])
theorem Rch_rf {nx test w S p o} : Rch nx test w S p o w S p o := ⟨0, by omega, fun k => by rw [Nat.zero_add]⟩
theorem Rch_tr {nx test w S p o w1 S1 p1 o1 w2 S2 p2 o2} (h : Rch nx test w S p o w1 S1 p1 o1) (g : Rch nx test w1 S1 p1 o1 w2 S2 p2 o2) : Rch nx test w S p o w2 S2 p2 o2 := by
  obtain ⟨j, hj, h⟩ := h
  obtain ⟨i, hi, g⟩ := g
  exact ⟨j + i, by omega, fun k => by rw [Nat.add_assoc, h, g]⟩
theorem Rch_fl {nx test w S p o w1 S1 p1 o1 p2} (h : Rch nx test w S p o w1 S1 p1 o1) (g : Fls nx test w1 S1 p1 o1 p2) : Fls nx test w S p o p2 := by
  obtain ⟨j, hj, h⟩ := h
  obtain ⟨i, hi, g⟩ := g
  exact ⟨j + i, by omega, fun k => by rw [show j + i + 1 + k = j + (i + 1 + k) from by omega, h, g]⟩
theorem Rch_s {nx test w S p o w1 S1 p1 o1} (hp : p + 1 ≤ p1) (h : ∀ k, prun nx test (k + 1) w S p o = prun nx test k w1 S1 p1 o1) : Rch nx test w S p o w1 S1 p1 o1 :=
  ⟨1, hp, fun k => by rw [Nat.add_comm 1 k, h]⟩
theorem Fls_s {nx test w S p o p1} (hp : p ≤ p1) (h : ∀ k, prun nx test (k + 1) w S p o = (false, p1, [])) : Fls nx test w S p o p1 :=
  ⟨0, by omega, fun k => by rw [show 0 + 1 + k = k + 1 from by omega, h]⟩
/-- what a reading step keeps to -/
noncomputable abbrev PSt (nx : Nat → Int) (test : Nat → PRd) (e : Nat) : Prop :=
  (∀ p, e ≤ p → nx p = -1) ∧ (∀ p, (test p).1 = true → p + 3 ≤ (test p).2.1 ∧ (test p).2.1 ≤ e) ∧ (∀ p, (test p).1 = false → p ≤ (test p).2.1) ∧ (∀ p, nx p = 33 ∨ nx p = 40 → (test p).1 = false ∧ (test p).2.1 = p)
theorem PSt.hn {nx : Nat → Int} {test : Nat → PRd} {e : Nat} (h : PSt nx test e) : ∀ p, e ≤ p → nx p = -1 := h.1
theorem PSt.t1 {nx : Nat → Int} {test : Nat → PRd} {e : Nat} (h : PSt nx test e) : ∀ p, (test p).1 = true → p + 3 ≤ (test p).2.1 ∧ (test p).2.1 ≤ e := h.2.1
theorem PSt.t2 {nx : Nat → Int} {test : Nat → PRd} {e : Nat} (h : PSt nx test e) : ∀ p, (test p).1 = false → p ≤ (test p).2.1 := h.2.2.1
theorem PSt.t3 {nx : Nat → Int} {test : Nat → PRd} {e : Nat} (h : PSt nx test e) : ∀ p, nx p = 33 ∨ nx p = 40 → (test p).1 = false ∧ (test p).2.1 = p := h.2.2.2
/-- f reads as the pile does, above S -/
noncomputable def SimP (nx : Nat → Int) (test : Nat → PRd) (e : Nat) (f : Nat → PRd) (S : List Int) : Prop :=
  ∀ p o, ((f p).1 = true → p + 1 ≤ (f p).2.1 ∧ (f p).2.1 ≤ e ∧ Rch nx test true S p o false (popN S) (f p).2.1 (o ++ (f p).2.2 ++ nots S)) ∧ ((f p).1 = false → p ≤ (f p).2.1 ∧ Fls nx test true S p o (f p).2.1)
theorem opn_c {b : Int} {S : List Int} : opn (b :: S) = if b = 33 ∨ b = 40 then opn S + 1 else opn S := Eq.trans rfl rfl
theorem popN_c {b : Int} {S : List Int} : popN (b :: S) = if b = 33 then popN S else b :: S := Eq.trans rfl rfl
theorem nots_c {b : Int} {S : List Int} : nots (b :: S) = if b = 33 then .N :: nots S else [] := Eq.trans rfl rfl
theorem setS_c {s b : Int} {S : List Int} : setS s (b :: S) = if b = 38 ∨ (b = 124 ∧ s ≠ 38) then setS s S else b :: S := Eq.trans rfl rfl
theorem setO_c {s b : Int} {S : List Int} : setO s (b :: S) = if b = 38 ∨ (b = 124 ∧ s ≠ 38) then tokOf b :: setO s S else [] := Eq.trans rfl rfl
theorem prun_t {nx test n S p o} : prun nx test (n + 1) true S p o = if nx p = 33 ∨ nx p = 40 then (if opn S = 4 then (false, p, []) else prun nx test n true (nx p :: S) (p + 1) o) else if (test p).1 = true then prun nx test n false (popN S) (test p).2.1 (o ++ (test p).2.2 ++ nots S) else (false, (test p).2.1, []) := Eq.trans rfl rfl
theorem prun_f {nx test n S p o} : prun nx test (n + 1) false S p o = if nx p = 38 ∨ nx p = 124 then prun nx test n true (nx p :: setS (nx p) S) (p + 1) (o ++ setO (nx p) S) else pend nx (prun nx test n) p (o ++ setO 124 S) (setS 124 S) := Eq.trans rfl rfl
theorem Sim_test {nx test e S p o} (H : PSt nx test e) (hx : ¬ (nx p = 33 ∨ nx p = 40)) : ((test p).1 = true → p + 1 ≤ (test p).2.1 ∧ (test p).2.1 ≤ e ∧ Rch nx test true S p o false (popN S) (test p).2.1 (o ++ (test p).2.2 ++ nots S)) ∧ ((test p).1 = false → p ≤ (test p).2.1 ∧ Fls nx test true S p o (test p).2.1) := by
  refine ⟨fun h => ?_, fun h => ?_⟩
  · obtain ⟨a, b⟩ := H.t1 p h
    exact ⟨by omega, b, Rch_s (by omega) (fun k => by rw [prun_t, if_neg hx, if_pos h])⟩
  · exact ⟨H.t2 p h, Fls_s (H.t2 p h) (fun k => by rw [prun_t, if_neg hx, if_neg (by rw [h]; decide)])⟩
theorem SimP_0 {nx test e S} (H : PSt nx test e) (hS : opn S = 4) : SimP nx test e (ppart nx test 0) S := by
  intro p o
  by_cases hx : nx p = 33 ∨ nx p = 40
  · obtain ⟨a, b⟩ := H.t3 p hx
    refine ⟨fun h => (by rw [show ppart nx test 0 p = test p from rfl, a] at h; cases h), fun _ => ?_⟩
    rw [show (ppart nx test 0 p).2.1 = p from b]
    exact ⟨Nat.le_refl _, Fls_s (Nat.le_refl _) (fun k => by rw [prun_t, if_pos hx, if_pos hS])⟩
  · exact Sim_test H hx
/-- f1 ( & f )*: with T on the pile above S -/
theorem pch_and {nx test e S} (H : PSt nx test e) {f : Nat → PRd} (hf : SimP nx test e f (38 :: S)) (hS : setS 38 S = S) (hO : setO 38 S = []) :
    ∀ n p T o, e < n + p → p ≤ e → (T = [] ∨ T = [38]) →
      ((pch nx 38 .A f n p).1 = true → p ≤ (pch nx 38 .A f n p).2.1 ∧ (pch nx 38 .A f n p).2.1 ≤ e ∧ nx (pch nx 38 .A f n p).2.1 ≠ 38 ∧ ∃ T' o', (T' = [] ∨ T' = [38]) ∧ o' ++ setO 38 T' = o ++ setO 38 T ++ (pch nx 38 .A f n p).2.2 ∧ Rch nx test false (T ++ S) p o false (T' ++ S) (pch nx 38 .A f n p).2.1 o')
      ∧ ((pch nx 38 .A f n p).1 = false → p ≤ (pch nx 38 .A f n p).2.1 ∧ Fls nx test false (T ++ S) p o (pch nx 38 .A f n p).2.1) := by
  intro n
  induction n with
  | zero => intro p T o h1 h2 _; omega
  | succ n ih =>
    intro p T o h1 h2 hT
    by_cases hx : nx p = 38
    · have hset : setS 38 (T ++ S) = S ∧ setO 38 (T ++ S) = setO 38 T := by
        rcases hT with rfl | rfl
        · exact ⟨hS, hO⟩
        · refine ⟨?_, ?_⟩
          · show setS 38 (38 :: S) = S
            unfold setS; rw [if_pos (Or.inl rfl)]; exact hS
          · show setO 38 (38 :: S) = setO 38 [38]
            unfold setO; rw [if_pos (Or.inl rfl), if_pos (Or.inl rfl), hO]; rfl
      have st : Rch nx test false (T ++ S) p o true (38 :: S) (p + 1) (o ++ setO 38 T) := Rch_s (Nat.le_refl _) (fun k => by rw [prun_f, if_pos (Or.inl hx), hx, hset.1, hset.2])
      have q := hf (p + 1) (o ++ setO 38 T)
      by_cases hr : (f (p + 1)).1 = true
      · obtain ⟨a, b, c⟩ := q.1 hr
        have e1 : pch nx 38 .A f (n + 1) p = ((pch nx 38 .A f n (f (p + 1)).2.1).1, (pch nx 38 .A f n (f (p + 1)).2.1).2.1, (f (p + 1)).2.2 ++ .A :: (pch nx 38 .A f n (f (p + 1)).2.1).2.2) := by
          show (if nx p = 38 then _ else _) = _
          rw [if_pos hx, if_pos hr]
        have n38 : popN (38 :: S) = 38 :: S ∧ nots (38 :: S) = [] := ⟨by unfold popN; rw [if_neg (by decide)], by unfold nots; rw [if_neg (by decide)]⟩
        rw [n38.1, n38.2, List.append_nil] at c
        have r := ih (f (p + 1)).2.1 [38] (o ++ setO 38 T ++ (f (p + 1)).2.2) (by omega) b (Or.inr rfl)
        rw [e1]
        refine ⟨fun h => ?_, fun h => ?_⟩
        · obtain ⟨r1, r2, r3, T', o', r4, r5, r6⟩ := r.1 h
          refine ⟨by show p ≤ (pch nx 38 .A f n (f (p + 1)).2.1).2.1; omega, r2, r3, T', o', r4, ?_, Rch_tr st (Rch_tr c r6)⟩
          rw [r5]
          show _ ++ [Tok.A] ++ _ = _
          simp only [List.append_assoc, List.cons_append, List.nil_append]
        · obtain ⟨r1, r2⟩ := r.2 h
          exact ⟨by show p ≤ (pch nx 38 .A f n (f (p + 1)).2.1).2.1; omega, Rch_fl st (Rch_fl c r2)⟩
      · have hr' : (f (p + 1)).1 = false := Bool.eq_false_iff.mpr hr
        have e1 : pch nx 38 .A f (n + 1) p = (false, (f (p + 1)).2.1, []) := by
          show (if nx p = 38 then _ else _) = _
          rw [if_pos hx, if_neg hr]
        rw [e1]
        obtain ⟨a, b⟩ := q.2 hr'
        exact ⟨fun h => (by cases h), fun _ => ⟨by show p ≤ (f (p + 1)).2.1; omega, Rch_fl st b⟩⟩
    · have e1 : pch nx 38 .A f (n + 1) p = (true, p, []) := by
        show (if nx p = 38 then _ else _) = _
        rw [if_neg hx]
      rw [e1]
      exact ⟨fun _ => ⟨Nat.le_refl _, h2, hx, T, o, hT, by simp only [List.append_nil], Rch_rf⟩, fun h => by cases h⟩
theorem SimP_both {nx test e S} (H : PSt nx test e) (he : e ≤ 100) {f : Nat → PRd} (hf : SimP nx test e f S) (hf2 : SimP nx test e f (38 :: S)) (hS : setS 38 S = S) (hO : setO 38 S = []) (hN : popN S = S ∧ nots S = []) (p : Nat) (o : List Tok) :
    ((pboth nx f p).1 = true → p + 1 ≤ (pboth nx f p).2.1 ∧ (pboth nx f p).2.1 ≤ e ∧ nx (pboth nx f p).2.1 ≠ 38 ∧ ∃ T' o', (T' = [] ∨ T' = [38]) ∧ o' ++ setO 38 T' = o ++ (pboth nx f p).2.2 ∧ Rch nx test true S p o false (T' ++ S) (pboth nx f p).2.1 o')
      ∧ ((pboth nx f p).1 = false → p ≤ (pboth nx f p).2.1 ∧ Fls nx test true S p o (pboth nx f p).2.1) := by
  have q := hf p o
  by_cases hr : (f p).1 = true
  · obtain ⟨a, b, c⟩ := q.1 hr
    rw [hN.1, hN.2, List.append_nil] at c
    have e1 : pboth nx f p = ((pch nx 38 .A f 101 (f p).2.1).1, (pch nx 38 .A f 101 (f p).2.1).2.1, (f p).2.2 ++ (pch nx 38 .A f 101 (f p).2.1).2.2) := by
      show (if (f p).1 = true then _ else _) = _
      rw [if_pos hr]
    have r := pch_and H hf2 hS hO 101 (f p).2.1 [] (o ++ (f p).2.2) (by omega) b (Or.inl rfl)
    rw [e1]
    refine ⟨fun h => ?_, fun h => ?_⟩
    · obtain ⟨r1, r2, r3, T', o', r4, r5, r6⟩ := r.1 h
      refine ⟨by show p + 1 ≤ (pch nx 38 .A f 101 (f p).2.1).2.1; omega, r2, r3, T', o', r4, ?_, Rch_tr c r6⟩
      rw [r5]
      show _ ++ [] ++ _ = _
      simp only [List.append_assoc, List.nil_append]
    · obtain ⟨r1, r2⟩ := r.2 h
      exact ⟨by show p ≤ (pch nx 38 .A f 101 (f p).2.1).2.1; omega, Rch_fl c r2⟩
  · have hr' : (f p).1 = false := Bool.eq_false_iff.mpr hr
    have e1 : pboth nx f p = (false, (f p).2.1, []) := by
      show (if (f p).1 = true then _ else _) = _
      rw [if_neg hr]
    rw [e1]
    exact ⟨fun h => (by cases h), fun _ => q.2 hr'⟩
/-- b1 ( | b )*: with T on the pile above S -/
theorem pch_or {nx test e S} (H : PSt nx test e) {g : Nat → PRd}
    (hg : ∀ p o, ((g p).1 = true → p + 1 ≤ (g p).2.1 ∧ (g p).2.1 ≤ e ∧ nx (g p).2.1 ≠ 38 ∧ ∃ T' o', (T' = [] ∨ T' = [38]) ∧ o' ++ setO 38 T' = o ++ (g p).2.2 ∧ Rch nx test true (124 :: S) p o false (T' ++ 124 :: S) (g p).2.1 o') ∧ ((g p).1 = false → p ≤ (g p).2.1 ∧ Fls nx test true (124 :: S) p o (g p).2.1))
    (hS : setS 124 S = S) (hO : setO 124 S = []) :
    ∀ n p T o, e < n + p → p ≤ e → nx p ≠ 38 → (T = [] ∨ T = [38] ∨ T = [124] ∨ T = [38, 124]) →
      ((pch nx 124 .O g n p).1 = true → p ≤ (pch nx 124 .O g n p).2.1 ∧ (pch nx 124 .O g n p).2.1 ≤ e ∧ nx (pch nx 124 .O g n p).2.1 ≠ 38 ∧ nx (pch nx 124 .O g n p).2.1 ≠ 124 ∧ ∃ T' o', setS 124 (T' ++ S) = S ∧ setO 124 (T' ++ S) = setO 124 T' ∧ o' ++ setO 124 T' = o ++ setO 124 T ++ (pch nx 124 .O g n p).2.2 ∧ Rch nx test false (T ++ S) p o false (T' ++ S) (pch nx 124 .O g n p).2.1 o')
      ∧ ((pch nx 124 .O g n p).1 = false → p ≤ (pch nx 124 .O g n p).2.1 ∧ Fls nx test false (T ++ S) p o (pch nx 124 .O g n p).2.1) := by
  intro n
  induction n with
  | zero => intro p T o h1 h2 _; omega
  | succ n ih =>
    intro p T o h1 h2 h3 hT
    have hset : setS 124 (T ++ S) = S ∧ setO 124 (T ++ S) = setO 124 T := by
      rcases hT with rfl | rfl | rfl | rfl
      · exact ⟨hS, hO⟩
      · refine ⟨?_, ?_⟩
        · show setS 124 (38 :: S) = S
          unfold setS; rw [if_pos (Or.inl rfl)]; exact hS
        · show setO 124 (38 :: S) = setO 124 [38]
          unfold setO; rw [if_pos (Or.inl rfl), if_pos (Or.inl rfl), hO]; rfl
      · refine ⟨?_, ?_⟩
        · show setS 124 (124 :: S) = S
          unfold setS; rw [if_pos (Or.inr ⟨rfl, by decide⟩)]; exact hS
        · show setO 124 (124 :: S) = setO 124 [124]
          unfold setO; rw [if_pos (Or.inr ⟨rfl, by decide⟩), if_pos (Or.inr ⟨rfl, by decide⟩), hO]; rfl
      · refine ⟨?_, ?_⟩
        · show setS 124 (38 :: 124 :: S) = S
          unfold setS; rw [if_pos (Or.inl rfl)]; unfold setS; rw [if_pos (Or.inr ⟨rfl, by decide⟩)]; exact hS
        · show setO 124 (38 :: 124 :: S) = setO 124 [38, 124]
          unfold setO; rw [if_pos (Or.inl rfl), if_pos (Or.inl rfl)]; unfold setO; rw [if_pos (Or.inr ⟨rfl, by decide⟩), if_pos (Or.inr ⟨rfl, by decide⟩), hO]; rfl
    by_cases hx : nx p = 124
    · have st : Rch nx test false (T ++ S) p o true (124 :: S) (p + 1) (o ++ setO 124 T) := Rch_s (Nat.le_refl _) (fun k => by rw [prun_f, if_pos (Or.inr hx), hx, hset.1, hset.2])
      have q := hg (p + 1) (o ++ setO 124 T)
      by_cases hr : (g (p + 1)).1 = true
      · obtain ⟨a, b, b2, T1, o1, t1, t2, c⟩ := q.1 hr
        have e1 : pch nx 124 .O g (n + 1) p = ((pch nx 124 .O g n (g (p + 1)).2.1).1, (pch nx 124 .O g n (g (p + 1)).2.1).2.1, (g (p + 1)).2.2 ++ .O :: (pch nx 124 .O g n (g (p + 1)).2.1).2.2) := by
          show (if nx p = 124 then _ else _) = _
          rw [if_pos hx, if_pos hr]
        have t3 : setO 124 (T1 ++ [124]) = setO 38 T1 ++ [.O] := by rcases t1 with rfl | rfl <;> rfl
        have r := ih (g (p + 1)).2.1 (T1 ++ [124]) o1 (by omega) b b2 (by rcases t1 with rfl | rfl; exact Or.inr (Or.inr (Or.inl rfl)); exact Or.inr (Or.inr (Or.inr rfl)))
        rw [List.append_assoc T1 [124] S, t3] at r
        rw [e1]
        refine ⟨fun h => ?_, fun h => ?_⟩
        · obtain ⟨r1, r2, r3, r3', T', o', r4, r4', r5, r6⟩ := r.1 h
          refine ⟨by show p ≤ (pch nx 124 .O g n (g (p + 1)).2.1).2.1; omega, r2, r3, r3', T', o', r4, r4', ?_, Rch_tr st (Rch_tr c r6)⟩
          rw [r5, ← List.append_assoc o1, t2]
          simp only [List.append_assoc, List.cons_append, List.nil_append]
        · obtain ⟨r1, r2⟩ := r.2 h
          exact ⟨by show p ≤ (pch nx 124 .O g n (g (p + 1)).2.1).2.1; omega, Rch_fl st (Rch_fl c r2)⟩
      · have hr' : (g (p + 1)).1 = false := Bool.eq_false_iff.mpr hr
        have e1 : pch nx 124 .O g (n + 1) p = (false, (g (p + 1)).2.1, []) := by
          show (if nx p = 124 then _ else _) = _
          rw [if_pos hx, if_neg hr]
        rw [e1]
        obtain ⟨a, b⟩ := q.2 hr'
        exact ⟨fun h => (by cases h), fun _ => ⟨by show p ≤ (g (p + 1)).2.1; omega, Rch_fl st b⟩⟩
    · have e1 : pch nx 124 .O g (n + 1) p = (true, p, []) := by
        show (if nx p = 124 then _ else _) = _
        rw [if_neg hx]
      rw [e1]
      exact ⟨fun _ => ⟨Nat.le_refl _, h2, h3, hx, T, o, hset.1, hset.2, by simp only [List.append_nil], Rch_rf⟩, fun h => by cases h⟩
theorem SimE {nx test e S} (H : PSt nx test e) (he : e ≤ 100) {f : Nat → PRd} (hf : ∀ T, opn T = opn S → SimP nx test e f T) (hS : setS 124 S = S ∧ setS 38 S = S) (hO : setO 124 S = [] ∧ setO 38 S = []) (hN : popN S = S ∧ nots S = []) (p : Nat) (o : List Tok) :
    ((peither nx f p).1 = true → p + 1 ≤ (peither nx f p).2.1 ∧ (peither nx f p).2.1 ≤ e ∧ nx (peither nx f p).2.1 ≠ 38 ∧ nx (peither nx f p).2.1 ≠ 124 ∧ ∃ T' o', setS 124 (T' ++ S) = S ∧ o' ++ setO 124 (T' ++ S) = o ++ (peither nx f p).2.2 ∧ Rch nx test true S p o false (T' ++ S) (peither nx f p).2.1 o')
      ∧ ((peither nx f p).1 = false → p ≤ (peither nx f p).2.1 ∧ Fls nx test true S p o (peither nx f p).2.1) := by
  have o38 : ∀ T, opn (38 :: T) = opn T := fun T => by rw [opn_c, if_neg (by decide)]
  have o124 : ∀ T, opn (124 :: T) = opn T := fun T => by rw [opn_c, if_neg (by decide)]
  have q := SimP_both H he (hf S rfl) (hf (38 :: S) (o38 S)) hS.2 hO.2 hN p o
  have g := SimP_both H he (hf (124 :: S) (o124 S)) (hf (38 :: 124 :: S) ((o38 _).trans (o124 S))) (by unfold setS; rw [if_neg (by decide)]) (by unfold setO; rw [if_neg (by decide)]) ⟨by unfold popN; rw [if_neg (by decide)], by unfold nots; rw [if_neg (by decide)]⟩
  by_cases hr : (pboth nx f p).1 = true
  · obtain ⟨a, b, b2, T1, o1, t1, t2, c⟩ := q.1 hr
    have e1 : peither nx f p = ((pch nx 124 .O (pboth nx f) 101 (pboth nx f p).2.1).1, (pch nx 124 .O (pboth nx f) 101 (pboth nx f p).2.1).2.1, (pboth nx f p).2.2 ++ (pch nx 124 .O (pboth nx f) 101 (pboth nx f p).2.1).2.2) := by
      show (if (pboth nx f p).1 = true then _ else _) = _
      rw [if_pos hr]
    have t3 : setO 124 T1 = setO 38 T1 := by rcases t1 with rfl | rfl <;> rfl
    have r := pch_or H g hS.1 hO.1 101 (pboth nx f p).2.1 T1 o1 (by omega) b b2 (by rcases t1 with rfl | rfl; exact Or.inl rfl; exact Or.inr (Or.inl rfl))
    rw [t3, t2] at r
    rw [e1]
    refine ⟨fun h => ?_, fun h => ?_⟩
    · obtain ⟨r1, r2, r3, r3', T', o', r4, r4', r5, r6⟩ := r.1 h
      refine ⟨by show p + 1 ≤ (pch nx 124 .O (pboth nx f) 101 (pboth nx f p).2.1).2.1; omega, r2, r3, r3', T', o', r4, ?_, Rch_tr c r6⟩
      rw [r4', r5]
      simp only [List.append_assoc]
    · obtain ⟨r1, r2⟩ := r.2 h
      exact ⟨by show p ≤ (pch nx 124 .O (pboth nx f) 101 (pboth nx f p).2.1).2.1; omega, Rch_fl c r2⟩
  · have hr' : (pboth nx f p).1 = false := Bool.eq_false_iff.mpr hr
    have e1 : peither nx f p = (false, (pboth nx f p).2.1, []) := by
      show (if (pboth nx f p).1 = true then _ else _) = _
      rw [if_neg hr]
    rw [e1]
    exact ⟨fun h => (by cases h), fun _ => q.2 hr'⟩
theorem SimP_part {nx test e} (H : PSt nx test e) (he : e ≤ 100) : ∀ k S, opn S + k = 4 → SimP nx test e (ppart nx test k) S := by
  intro k
  induction k with
  | zero => exact fun S h => SimP_0 H h
  | succ k ih =>
    intro S h p o
    have h4 : ¬ opn S = 4 := by omega
    by_cases h33 : nx p = 33
    · have st : Rch nx test true S p o true (33 :: S) (p + 1) o := Rch_s (Nat.le_refl _) (fun k => by rw [prun_t, if_pos (Or.inl h33), if_neg h4, h33])
      have q := ih (33 :: S) (by have : opn (33 :: S) = opn S + 1 := by rw [opn_c, if_pos (Or.inl rfl)]
                                 omega) (p + 1) o
      have n33 : popN (33 :: S) = popN S ∧ nots (33 :: S) = .N :: nots S := ⟨by rw [popN_c, if_pos rfl], by rw [nots_c, if_pos rfl]⟩
      rw [n33.1, n33.2] at q
      by_cases hr : (ppart nx test k (p + 1)).1 = true
      · obtain ⟨a, b, c⟩ := q.1 hr
        have e1 : ppart nx test (k + 1) p = (true, (ppart nx test k (p + 1)).2.1, (ppart nx test k (p + 1)).2.2 ++ [.N]) := by
          show (if nx p = 33 then _ else _) = _
          rw [if_pos h33, if_pos hr]
        rw [e1]
        refine ⟨fun _ => ⟨by show p + 1 ≤ (ppart nx test k (p + 1)).2.1; omega, b, ?_⟩, fun h => by cases h⟩
        have := Rch_tr st c
        simp only [List.append_assoc, List.cons_append, List.nil_append] at this ⊢
        exact this
      · have hr' : (ppart nx test k (p + 1)).1 = false := Bool.eq_false_iff.mpr hr
        have e1 : ppart nx test (k + 1) p = (false, (ppart nx test k (p + 1)).2.1, []) := by
          show (if nx p = 33 then _ else _) = _
          rw [if_pos h33, if_neg hr]
        rw [e1]
        obtain ⟨a, b⟩ := q.2 hr'
        exact ⟨fun h => (by cases h), fun _ => ⟨by show p ≤ (ppart nx test k (p + 1)).2.1; omega, Rch_fl st b⟩⟩
    · by_cases h40 : nx p = 40
      · have st : Rch nx test true S p o true (40 :: S) (p + 1) o := Rch_s (Nat.le_refl _) (fun k => by rw [prun_t, if_pos (Or.inr h40), if_neg h4, h40])
        have o40 : opn (40 :: S) = opn S + 1 := by rw [opn_c, if_pos (Or.inr rfl)]
        have q := SimE H he (S := 40 :: S) (fun T hT => ih T (by omega)) ⟨by unfold setS; rw [if_neg (by decide)], by unfold setS; rw [if_neg (by decide)]⟩ ⟨by unfold setO; rw [if_neg (by decide)], by unfold setO; rw [if_neg (by decide)]⟩ ⟨by unfold popN; rw [if_neg (by decide)], by unfold nots; rw [if_neg (by decide)]⟩ (p + 1) o
        by_cases hr : (peither nx (ppart nx test k) (p + 1)).1 = true
        · obtain ⟨a, b, b1, b2, T', o', t1, t2, c⟩ := q.1 hr
          by_cases h41 : nx (peither nx (ppart nx test k) (p + 1)).2.1 = 41
          · have e1 : ppart nx test (k + 1) p = (true, (peither nx (ppart nx test k) (p + 1)).2.1 + 1, (peither nx (ppart nx test k) (p + 1)).2.2) := by
              show (if nx p = 33 then _ else _) = _
              rw [if_neg h33, if_pos h40, if_pos hr, if_pos h41]
            rw [e1]
            have he2 : (peither nx (ppart nx test k) (p + 1)).2.1 < e := Nat.lt_of_not_le (fun h9 => by rw [H.hn _ h9] at h41; exact absurd h41 (by decide))
            refine ⟨fun _ => ⟨by show p + 1 ≤ (peither nx (ppart nx test k) (p + 1)).2.1 + 1; omega, he2, ?_⟩, fun h => by cases h⟩
            refine Rch_tr st (Rch_tr c (Rch_s (Nat.le_refl _) (fun k9 => ?_)))
            rw [prun_f, if_neg (fun h9 => h9.elim b1 b2), t1, t2]
            show (if nx _ = 41 then _ else _) = _
            rw [if_pos h41]
          · have e1 : ppart nx test (k + 1) p = (false, (peither nx (ppart nx test k) (p + 1)).2.1, []) := by
              show (if nx p = 33 then _ else _) = _
              rw [if_neg h33, if_pos h40, if_pos hr, if_neg h41]
            rw [e1]
            refine ⟨fun h => (by cases h), fun _ => ⟨by show p ≤ (peither nx (ppart nx test k) (p + 1)).2.1; omega, Rch_fl st (Rch_fl c (Fls_s (Nat.le_refl _) (fun k9 => ?_)))⟩⟩
            rw [prun_f, if_neg (fun h9 => h9.elim b1 b2), t1, t2]
            show (if nx _ = 41 then _ else _) = _
            rw [if_neg h41]
        · have hr' : (peither nx (ppart nx test k) (p + 1)).1 = false := Bool.eq_false_iff.mpr hr
          have e1 : ppart nx test (k + 1) p = (false, (peither nx (ppart nx test k) (p + 1)).2.1, []) := by
            show (if nx p = 33 then _ else _) = _
            rw [if_neg h33, if_pos h40, if_neg hr]
          rw [e1]
          obtain ⟨a, b⟩ := q.2 hr'
          exact ⟨fun h => (by cases h), fun _ => ⟨by show p ≤ (peither nx (ppart nx test k) (p + 1)).2.1; omega, Rch_fl st b⟩⟩
      · have e1 : ppart nx test (k + 1) p = test p := by
          show (if nx p = 33 then _ else _) = _
          rw [if_neg h33, if_neg h40]
        rw [e1]
        exact Sim_test H (fun h => h.elim h33 h40)
theorem prun_le {nx test e} (H : PSt nx test e) (h2 : ∀ p, p ≤ e → (test p).2.1 ≤ e) : ∀ n w S p o, p ≤ e → (prun nx test n w S p o).2.1 ≤ e := by
  have lt : ∀ {p c}, nx p = c → c ≠ -1 → p < e := fun {p c} h g => Nat.lt_of_not_le (fun h9 => g (by rw [← h, H.hn _ h9]))
  intro n
  induction n with
  | zero => intro w S p o h; exact h
  | succ n ih =>
    intro w S p o h
    cases w
    · rw [prun_f]
      by_cases hx : nx p = 38 ∨ nx p = 124
      · rw [if_pos hx]
        exact ih _ _ _ _ (hx.elim (fun h => lt h (by decide)) (fun h => lt h (by decide)))
      · rw [if_neg hx]
        cases hs : setS 124 S with
        | nil => exact h
        | cons b S' =>
          show (if nx p = 41 then _ else _ : PRd).2.1 ≤ e
          by_cases h41 : nx p = 41
          · rw [if_pos h41]; exact ih _ _ _ _ (lt h41 (by decide))
          · rw [if_neg h41]; exact h
    · rw [prun_t]
      by_cases hx : nx p = 33 ∨ nx p = 40
      · rw [if_pos hx]
        by_cases h4 : opn S = 4
        · rw [if_pos h4]; exact h
        · rw [if_neg h4]; exact ih _ _ _ _ (hx.elim (fun h => lt h (by decide)) (fun h => lt h (by decide)))
      · rw [if_neg hx]
        by_cases ht : (test p).1 = true
        · rw [if_pos ht]; exact ih _ _ _ _ (h2 p h)
        · rw [if_neg ht]; exact h2 p h
/-- both ways of reading E, alike -/
theorem prun_E {nx test e} (H : PSt nx test e) (h2 : ∀ p, p ≤ e → (test p).2.1 ≤ e) (he : e ≤ 100) (p k : Nat) (hp : p ≤ e) (hk : 102 ≤ k) :
    prun nx test k true [] p [] = (if (peither nx (ppart nx test 4) p).1 = true then peither nx (ppart nx test 4) p else (false, (peither nx (ppart nx test 4) p).2.1, [])) := by
  have q := SimE H he (S := []) (fun T hT => SimP_part H he 4 T (by rw [hT]; rfl)) ⟨rfl, rfl⟩ ⟨rfl, rfl⟩ ⟨rfl, rfl⟩ p []
  by_cases hr : (peither nx (ppart nx test 4) p).1 = true
  · obtain ⟨a, b, b1, b2, T', o', t1, t2, j, hj, c⟩ := q.1 hr
    rw [if_pos hr, show k = j + ((k - j - 1) + 1) from by omega, c, prun_f, if_neg (fun h9 => h9.elim b1 b2), t1, t2]
    show (true, _, _) = _
    rw [← hr]
    rfl
  · have hr' : (peither nx (ppart nx test 4) p).1 = false := Bool.eq_false_iff.mpr hr
    obtain ⟨a, j, hj, c⟩ := q.2 hr'
    have l := prun_le H h2 (j + 1 + 0) true [] p [] hp
    rw [c 0] at l
    have l : (peither nx (ppart nx test 4) p).2.1 ≤ e := l
    rw [if_neg hr, show k = j + 1 + (k - j - 1) from by omega, c]
