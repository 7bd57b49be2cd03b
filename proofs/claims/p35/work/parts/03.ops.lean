/-! the bytes at a place, and what each opcode decodes to: one theorem for each opcode -/
noncomputable def by1 (c : ByteArray) (p n : Nat) : Bool := match c.data.toList.drop p with
  | x :: _ => Nat.beq x.toNat n
  | _ => false
noncomputable def by2 (c : ByteArray) (p n : Nat) (q : Nat → Bool) : Bool := match c.data.toList.drop p with
  | x :: y :: _ => Nat.beq x.toNat n && q y.toNat
  | _ => false
noncomputable def by3 (c : ByteArray) (p n : Nat) (q : Nat → Nat → Bool) : Bool := match c.data.toList.drop p with
  | x :: y :: z :: _ => Nat.beq x.toNat n && q y.toNat z.toNat
  | _ => false
theorem u1_get {c : ByteArray} {p : Nat} {x : UInt8} {l : List UInt8} (h : c.data.toList.drop p = x :: l) : (Reader.u1 : Decoder Nat) c p = .ok (x.toNat, p + 1) ∧ c.data.toList.drop (p + 1) = l := by
  have hp : p < c.data.toList.length := by
    rcases Nat.lt_or_ge p c.data.toList.length with h2 | h2
    · exact h2
    · rw [List.drop_eq_nil_of_le h2] at h; cases h
  have h3 := List.drop_eq_getElem_cons hp
  rw [h] at h3
  injection h3 with h4 h5
  refine ⟨?_, h5.symm⟩
  have hs : p < c.size := hp
  have hx : c[p] = x := h4.symm
  unfold Reader.u1
  show (dite (p < c.size) _ _ : Decoder Nat) c p = _
  rw [dif_pos hs]
  show (Except.ok ((c[p]'hs).toNat, p + 1) : Except DecodeError (Nat × Nat)) = _
  rw [hx]
theorem by1_u {c : ByteArray} {p n : Nat} (h : by1 c p n = true) : (Reader.u1 : Decoder Nat) c p = .ok (n, p + 1) := by
  unfold by1 at h
  split at h
  · next x l e => rw [(u1_get e).1, Nat.eq_of_beq_eq_true h]
  · cases h
theorem by2_u {c : ByteArray} {p n : Nat} {q : Nat → Bool} (h : by2 c p n q = true) : (Reader.u1 : Decoder Nat) c p = .ok (n, p + 1) ∧ ∃ a, (Reader.u1 : Decoder Nat) c (p + 1) = .ok (a, p + 1 + 1) ∧ q a = true := by
  unfold by2 at h
  split at h
  · next x y l e =>
    have h1 := u1_get e
    have h2 := u1_get h1.2
    rw [Bool.and_eq_true] at h
    exact ⟨by rw [h1.1, Nat.eq_of_beq_eq_true h.1], _, h2.1, h.2⟩
  · cases h
theorem by3_u {c : ByteArray} {p n : Nat} {q : Nat → Nat → Bool} (h : by3 c p n q = true) : (Reader.u1 : Decoder Nat) c p = .ok (n, p + 1) ∧ ∃ a b, (Reader.u1 : Decoder Nat) c (p + 1) = .ok (a, p + 1 + 1) ∧ (Reader.u1 : Decoder Nat) c (p + 1 + 1) = .ok (b, p + 1 + 1 + 1) ∧ q a b = true := by
  unfold by3 at h
  split at h
  · next x y z l e =>
    have h1 := u1_get e
    have h2 := u1_get h1.2
    have h3 := u1_get h2.2
    rw [Bool.and_eq_true] at h
    exact ⟨by rw [h1.1, Nat.eq_of_beq_eq_true h.1], _, _, h2.1, h3.1, h.2⟩
  · cases h
theorem dec_in {c : ByteArray} {p q L : Nat} {i : Instr} (h : Decoder.instr p c p = .ok (i, q)) (hq : q - p = L) : decode c p = .ok (i, L) := by
  show (Except.bind (Decoder.instr p c p) _) = _
  rw [h, ← hq]; rfl
theorem l1 (p : Nat) : p + 1 - p = 1 := by omega
theorem l2 (p : Nat) : p + 1 + 1 - p = 2 := by omega
theorem l3 (p : Nat) : p + 1 + 1 + 1 - p = 3 := by omega
noncomputable def opU1 (v : Nat) : Nat → Bool := fun y => Nat.beq y v
noncomputable def opS1 (v : Int) : Nat → Bool := fun y => decide (Reader.signed 8 y = v)
noncomputable def opU2 (v : Nat) : Nat → Nat → Bool := fun y z => Nat.beq (y * 256 + z) v
noncomputable def opS2 (v : Int) : Nat → Nat → Bool := fun y z => decide (Reader.signed 16 (y * 256 + z) = v)
noncomputable def opI (k : Nat) (v : Int) : Nat → Nat → Bool := fun y z => Nat.beq y k && decide (Reader.signed 8 z = v)
theorem s1_ok {c : ByteArray} {p a q : Nat} (h : (Reader.u1 : Decoder Nat) c p = .ok (a, q)) : (Reader.s1 : Decoder Int) c p = .ok (Reader.signed 8 a, q) := by
  unfold Reader.s1
  first
    | (show Except.bind ((Reader.u1 : Decoder Nat) c p) _ = _; rw [h]; rfl)
    | (show Except.map _ ((Reader.u1 : Decoder Nat) c p) = _; rw [h]; rfl)
theorem u2_ok {c : ByteArray} {p a b q r : Nat} (h : (Reader.u1 : Decoder Nat) c p = .ok (a, q)) (h2 : (Reader.u1 : Decoder Nat) c q = .ok (b, r)) : (Reader.u2 : Decoder Nat) c p = .ok (a * 256 + b, r) := by
  unfold Reader.u2
  show Except.bind ((Reader.u1 : Decoder Nat) c p) _ = _; rw [h]
  show Except.bind ((Reader.u1 : Decoder Nat) c q) _ = _; rw [h2]; rfl
theorem s2_ok {c : ByteArray} {p a b q r : Nat} (h : (Reader.u1 : Decoder Nat) c p = .ok (a, q)) (h2 : (Reader.u1 : Decoder Nat) c q = .ok (b, r)) : (Reader.s2 : Decoder Int) c p = .ok (Reader.signed 16 (a * 256 + b), r) := by
  unfold Reader.s2
  have e := u2_ok h h2
  first
    | (show Except.bind ((Reader.u2 : Decoder Nat) c p) _ = _; rw [e]; rfl)
    | (show Except.map _ ((Reader.u2 : Decoder Nat) c p) = _; rw [e]; rfl)
theorem o_1 {c : ByteArray} {p : Nat} (h : by1 c p 1 = true) : decode c p = .ok (.aconst_null, 1) := by
  refine dec_in (q := p + 1) ?_ (l1 p)
  have e := by1_u h
  unfold Decoder.instr
  show Except.bind ((Reader.u1 : Decoder Nat) c p) _ = _
  rw [e]
  rfl
theorem o_2 {c : ByteArray} {p : Nat} (h : by1 c p 2 = true) : decode c p = .ok (.iconst (-1), 1) := by
  refine dec_in (q := p + 1) ?_ (l1 p)
  have e := by1_u h
  unfold Decoder.instr
  show Except.bind ((Reader.u1 : Decoder Nat) c p) _ = _
  rw [e]
  rfl
theorem o_3 {c : ByteArray} {p : Nat} (h : by1 c p 3 = true) : decode c p = .ok (.iconst 0, 1) := by
  refine dec_in (q := p + 1) ?_ (l1 p)
  have e := by1_u h
  unfold Decoder.instr
  show Except.bind ((Reader.u1 : Decoder Nat) c p) _ = _
  rw [e]
  rfl
theorem o_4 {c : ByteArray} {p : Nat} (h : by1 c p 4 = true) : decode c p = .ok (.iconst 1, 1) := by
  refine dec_in (q := p + 1) ?_ (l1 p)
  have e := by1_u h
  unfold Decoder.instr
  show Except.bind ((Reader.u1 : Decoder Nat) c p) _ = _
  rw [e]
  rfl
theorem o_5 {c : ByteArray} {p : Nat} (h : by1 c p 5 = true) : decode c p = .ok (.iconst 2, 1) := by
  refine dec_in (q := p + 1) ?_ (l1 p)
  have e := by1_u h
  unfold Decoder.instr
  show Except.bind ((Reader.u1 : Decoder Nat) c p) _ = _
  rw [e]
  rfl
theorem o_6 {c : ByteArray} {p : Nat} (h : by1 c p 6 = true) : decode c p = .ok (.iconst 3, 1) := by
  refine dec_in (q := p + 1) ?_ (l1 p)
  have e := by1_u h
  unfold Decoder.instr
  show Except.bind ((Reader.u1 : Decoder Nat) c p) _ = _
  rw [e]
  rfl
theorem o_7 {c : ByteArray} {p : Nat} (h : by1 c p 7 = true) : decode c p = .ok (.iconst 4, 1) := by
  refine dec_in (q := p + 1) ?_ (l1 p)
  have e := by1_u h
  unfold Decoder.instr
  show Except.bind ((Reader.u1 : Decoder Nat) c p) _ = _
  rw [e]
  rfl
theorem o_8 {c : ByteArray} {p : Nat} (h : by1 c p 8 = true) : decode c p = .ok (.iconst 5, 1) := by
  refine dec_in (q := p + 1) ?_ (l1 p)
  have e := by1_u h
  unfold Decoder.instr
  show Except.bind ((Reader.u1 : Decoder Nat) c p) _ = _
  rw [e]
  rfl
theorem o_9 {c : ByteArray} {p : Nat} (h : by1 c p 9 = true) : decode c p = .ok (.lconst 0, 1) := by
  refine dec_in (q := p + 1) ?_ (l1 p)
  have e := by1_u h
  unfold Decoder.instr
  show Except.bind ((Reader.u1 : Decoder Nat) c p) _ = _
  rw [e]
  rfl
theorem o_10 {c : ByteArray} {p : Nat} (h : by1 c p 10 = true) : decode c p = .ok (.lconst 1, 1) := by
  refine dec_in (q := p + 1) ?_ (l1 p)
  have e := by1_u h
  unfold Decoder.instr
  show Except.bind ((Reader.u1 : Decoder Nat) c p) _ = _
  rw [e]
  rfl
theorem o_16 {c : ByteArray} {p : Nat} {v : Int} (h : by2 c p 16 (opS1 v) = true) : decode c p = .ok (.bipush v, 2) := by
  refine dec_in (q := p + 1 + 1) ?_ (l2 p)
  obtain ⟨e, a, e2, hv⟩ := by2_u h
  have hv := of_decide_eq_true hv
  subst hv
  unfold Decoder.instr
  show Except.bind ((Reader.u1 : Decoder Nat) c p) _ = _
  rw [e]
  show Except.bind ((Reader.s1 : Decoder Int) c (p + 1)) _ = _; rw [s1_ok e2]; rfl
theorem o_17 {c : ByteArray} {p : Nat} {v : Int} (h : by3 c p 17 (opS2 v) = true) : decode c p = .ok (.sipush v, 3) := by
  refine dec_in (q := p + 1 + 1 + 1) ?_ (l3 p)
  obtain ⟨e, a, b, e2, e3, hv⟩ := by3_u h
  have hv := of_decide_eq_true hv
  subst hv
  unfold Decoder.instr
  show Except.bind ((Reader.u1 : Decoder Nat) c p) _ = _
  rw [e]
  show Except.bind ((Reader.s2 : Decoder Int) c (p + 1)) _ = _; rw [s2_ok e2 e3]; rfl
theorem o_18 {c : ByteArray} {p : Nat} {v : Nat} (h : by2 c p 18 (opU1 v) = true) : decode c p = .ok (.ldc v, 2) := by
  refine dec_in (q := p + 1 + 1) ?_ (l2 p)
  obtain ⟨e, a, e2, hv⟩ := by2_u h
  have hv := Nat.eq_of_beq_eq_true hv
  subst hv
  unfold Decoder.instr
  show Except.bind ((Reader.u1 : Decoder Nat) c p) _ = _
  rw [e]
  show Except.bind ((Reader.u1 : Decoder Nat) c (p + 1)) _ = _; rw [e2]; rfl
theorem o_19 {c : ByteArray} {p : Nat} {v : Nat} (h : by3 c p 19 (opU2 v) = true) : decode c p = .ok (.ldc_w v, 3) := by
  refine dec_in (q := p + 1 + 1 + 1) ?_ (l3 p)
  obtain ⟨e, a, b, e2, e3, hv⟩ := by3_u h
  have hv := Nat.eq_of_beq_eq_true hv
  subst hv
  unfold Decoder.instr
  show Except.bind ((Reader.u1 : Decoder Nat) c p) _ = _
  rw [e]
  show Except.bind ((Reader.u2 : Decoder Nat) c (p + 1)) _ = _; rw [u2_ok e2 e3]; rfl
theorem o_20 {c : ByteArray} {p : Nat} {v : Nat} (h : by3 c p 20 (opU2 v) = true) : decode c p = .ok (.ldc2_w v, 3) := by
  refine dec_in (q := p + 1 + 1 + 1) ?_ (l3 p)
  obtain ⟨e, a, b, e2, e3, hv⟩ := by3_u h
  have hv := Nat.eq_of_beq_eq_true hv
  subst hv
  unfold Decoder.instr
  show Except.bind ((Reader.u1 : Decoder Nat) c p) _ = _
  rw [e]
  show Except.bind ((Reader.u2 : Decoder Nat) c (p + 1)) _ = _; rw [u2_ok e2 e3]; rfl
theorem o_21 {c : ByteArray} {p : Nat} {v : Nat} (h : by2 c p 21 (opU1 v) = true) : decode c p = .ok (.iload v, 2) := by
  refine dec_in (q := p + 1 + 1) ?_ (l2 p)
  obtain ⟨e, a, e2, hv⟩ := by2_u h
  have hv := Nat.eq_of_beq_eq_true hv
  subst hv
  unfold Decoder.instr
  show Except.bind ((Reader.u1 : Decoder Nat) c p) _ = _
  rw [e]
  show Except.bind ((Reader.u1 : Decoder Nat) c (p + 1)) _ = _; rw [e2]; rfl
theorem o_25 {c : ByteArray} {p : Nat} {v : Nat} (h : by2 c p 25 (opU1 v) = true) : decode c p = .ok (.aload v, 2) := by
  refine dec_in (q := p + 1 + 1) ?_ (l2 p)
  obtain ⟨e, a, e2, hv⟩ := by2_u h
  have hv := Nat.eq_of_beq_eq_true hv
  subst hv
  unfold Decoder.instr
  show Except.bind ((Reader.u1 : Decoder Nat) c p) _ = _
  rw [e]
  show Except.bind ((Reader.u1 : Decoder Nat) c (p + 1)) _ = _; rw [e2]; rfl
theorem o_26 {c : ByteArray} {p : Nat} (h : by1 c p 26 = true) : decode c p = .ok (.iload_n 0, 1) := by
  refine dec_in (q := p + 1) ?_ (l1 p)
  have e := by1_u h
  unfold Decoder.instr
  show Except.bind ((Reader.u1 : Decoder Nat) c p) _ = _
  rw [e]
  rfl
theorem o_27 {c : ByteArray} {p : Nat} (h : by1 c p 27 = true) : decode c p = .ok (.iload_n 1, 1) := by
  refine dec_in (q := p + 1) ?_ (l1 p)
  have e := by1_u h
  unfold Decoder.instr
  show Except.bind ((Reader.u1 : Decoder Nat) c p) _ = _
  rw [e]
  rfl
theorem o_28 {c : ByteArray} {p : Nat} (h : by1 c p 28 = true) : decode c p = .ok (.iload_n 2, 1) := by
  refine dec_in (q := p + 1) ?_ (l1 p)
  have e := by1_u h
  unfold Decoder.instr
  show Except.bind ((Reader.u1 : Decoder Nat) c p) _ = _
  rw [e]
  rfl
theorem o_29 {c : ByteArray} {p : Nat} (h : by1 c p 29 = true) : decode c p = .ok (.iload_n 3, 1) := by
  refine dec_in (q := p + 1) ?_ (l1 p)
  have e := by1_u h
  unfold Decoder.instr
  show Except.bind ((Reader.u1 : Decoder Nat) c p) _ = _
  rw [e]
  rfl
theorem o_31 {c : ByteArray} {p : Nat} (h : by1 c p 31 = true) : decode c p = .ok (.lload_n 1, 1) := by
  refine dec_in (q := p + 1) ?_ (l1 p)
  have e := by1_u h
  unfold Decoder.instr
  show Except.bind ((Reader.u1 : Decoder Nat) c p) _ = _
  rw [e]
  rfl
theorem o_32 {c : ByteArray} {p : Nat} (h : by1 c p 32 = true) : decode c p = .ok (.lload_n 2, 1) := by
  refine dec_in (q := p + 1) ?_ (l1 p)
  have e := by1_u h
  unfold Decoder.instr
  show Except.bind ((Reader.u1 : Decoder Nat) c p) _ = _
  rw [e]
  rfl
theorem o_33 {c : ByteArray} {p : Nat} (h : by1 c p 33 = true) : decode c p = .ok (.lload_n 3, 1) := by
  refine dec_in (q := p + 1) ?_ (l1 p)
  have e := by1_u h
  unfold Decoder.instr
  show Except.bind ((Reader.u1 : Decoder Nat) c p) _ = _
  rw [e]
  rfl
theorem o_42 {c : ByteArray} {p : Nat} (h : by1 c p 42 = true) : decode c p = .ok (.aload_n 0, 1) := by
  refine dec_in (q := p + 1) ?_ (l1 p)
  have e := by1_u h
  unfold Decoder.instr
  show Except.bind ((Reader.u1 : Decoder Nat) c p) _ = _
  rw [e]
  rfl
theorem o_43 {c : ByteArray} {p : Nat} (h : by1 c p 43 = true) : decode c p = .ok (.aload_n 1, 1) := by
  refine dec_in (q := p + 1) ?_ (l1 p)
  have e := by1_u h
  unfold Decoder.instr
  show Except.bind ((Reader.u1 : Decoder Nat) c p) _ = _
  rw [e]
  rfl
theorem o_44 {c : ByteArray} {p : Nat} (h : by1 c p 44 = true) : decode c p = .ok (.aload_n 2, 1) := by
  refine dec_in (q := p + 1) ?_ (l1 p)
  have e := by1_u h
  unfold Decoder.instr
  show Except.bind ((Reader.u1 : Decoder Nat) c p) _ = _
  rw [e]
  rfl
theorem o_45 {c : ByteArray} {p : Nat} (h : by1 c p 45 = true) : decode c p = .ok (.aload_n 3, 1) := by
  refine dec_in (q := p + 1) ?_ (l1 p)
  have e := by1_u h
  unfold Decoder.instr
  show Except.bind ((Reader.u1 : Decoder Nat) c p) _ = _
  rw [e]
  rfl
theorem o_46 {c : ByteArray} {p : Nat} (h : by1 c p 46 = true) : decode c p = .ok (.iaload, 1) := by
  refine dec_in (q := p + 1) ?_ (l1 p)
  have e := by1_u h
  unfold Decoder.instr
  show Except.bind ((Reader.u1 : Decoder Nat) c p) _ = _
  rw [e]
  rfl
theorem o_47 {c : ByteArray} {p : Nat} (h : by1 c p 47 = true) : decode c p = .ok (.laload, 1) := by
  refine dec_in (q := p + 1) ?_ (l1 p)
  have e := by1_u h
  unfold Decoder.instr
  show Except.bind ((Reader.u1 : Decoder Nat) c p) _ = _
  rw [e]
  rfl
theorem o_50 {c : ByteArray} {p : Nat} (h : by1 c p 50 = true) : decode c p = .ok (.aaload, 1) := by
  refine dec_in (q := p + 1) ?_ (l1 p)
  have e := by1_u h
  unfold Decoder.instr
  show Except.bind ((Reader.u1 : Decoder Nat) c p) _ = _
  rw [e]
  rfl
theorem o_51 {c : ByteArray} {p : Nat} (h : by1 c p 51 = true) : decode c p = .ok (.baload, 1) := by
  refine dec_in (q := p + 1) ?_ (l1 p)
  have e := by1_u h
  unfold Decoder.instr
  show Except.bind ((Reader.u1 : Decoder Nat) c p) _ = _
  rw [e]
  rfl
theorem o_54 {c : ByteArray} {p : Nat} {v : Nat} (h : by2 c p 54 (opU1 v) = true) : decode c p = .ok (.istore v, 2) := by
  refine dec_in (q := p + 1 + 1) ?_ (l2 p)
  obtain ⟨e, a, e2, hv⟩ := by2_u h
  have hv := Nat.eq_of_beq_eq_true hv
  subst hv
  unfold Decoder.instr
  show Except.bind ((Reader.u1 : Decoder Nat) c p) _ = _
  rw [e]
  show Except.bind ((Reader.u1 : Decoder Nat) c (p + 1)) _ = _; rw [e2]; rfl
theorem o_58 {c : ByteArray} {p : Nat} {v : Nat} (h : by2 c p 58 (opU1 v) = true) : decode c p = .ok (.astore v, 2) := by
  refine dec_in (q := p + 1 + 1) ?_ (l2 p)
  obtain ⟨e, a, e2, hv⟩ := by2_u h
  have hv := Nat.eq_of_beq_eq_true hv
  subst hv
  unfold Decoder.instr
  show Except.bind ((Reader.u1 : Decoder Nat) c p) _ = _
  rw [e]
  show Except.bind ((Reader.u1 : Decoder Nat) c (p + 1)) _ = _; rw [e2]; rfl
theorem o_60 {c : ByteArray} {p : Nat} (h : by1 c p 60 = true) : decode c p = .ok (.istore_n 1, 1) := by
  refine dec_in (q := p + 1) ?_ (l1 p)
  have e := by1_u h
  unfold Decoder.instr
  show Except.bind ((Reader.u1 : Decoder Nat) c p) _ = _
  rw [e]
  rfl
theorem o_61 {c : ByteArray} {p : Nat} (h : by1 c p 61 = true) : decode c p = .ok (.istore_n 2, 1) := by
  refine dec_in (q := p + 1) ?_ (l1 p)
  have e := by1_u h
  unfold Decoder.instr
  show Except.bind ((Reader.u1 : Decoder Nat) c p) _ = _
  rw [e]
  rfl
theorem o_62 {c : ByteArray} {p : Nat} (h : by1 c p 62 = true) : decode c p = .ok (.istore_n 3, 1) := by
  refine dec_in (q := p + 1) ?_ (l1 p)
  have e := by1_u h
  unfold Decoder.instr
  show Except.bind ((Reader.u1 : Decoder Nat) c p) _ = _
  rw [e]
  rfl
theorem o_76 {c : ByteArray} {p : Nat} (h : by1 c p 76 = true) : decode c p = .ok (.astore_n 1, 1) := by
  refine dec_in (q := p + 1) ?_ (l1 p)
  have e := by1_u h
  unfold Decoder.instr
  show Except.bind ((Reader.u1 : Decoder Nat) c p) _ = _
  rw [e]
  rfl
theorem o_77 {c : ByteArray} {p : Nat} (h : by1 c p 77 = true) : decode c p = .ok (.astore_n 2, 1) := by
  refine dec_in (q := p + 1) ?_ (l1 p)
  have e := by1_u h
  unfold Decoder.instr
  show Except.bind ((Reader.u1 : Decoder Nat) c p) _ = _
  rw [e]
  rfl
theorem o_78 {c : ByteArray} {p : Nat} (h : by1 c p 78 = true) : decode c p = .ok (.astore_n 3, 1) := by
  refine dec_in (q := p + 1) ?_ (l1 p)
  have e := by1_u h
  unfold Decoder.instr
  show Except.bind ((Reader.u1 : Decoder Nat) c p) _ = _
  rw [e]
  rfl
theorem o_79 {c : ByteArray} {p : Nat} (h : by1 c p 79 = true) : decode c p = .ok (.iastore, 1) := by
  refine dec_in (q := p + 1) ?_ (l1 p)
  have e := by1_u h
  unfold Decoder.instr
  show Except.bind ((Reader.u1 : Decoder Nat) c p) _ = _
  rw [e]
  rfl
theorem o_80 {c : ByteArray} {p : Nat} (h : by1 c p 80 = true) : decode c p = .ok (.lastore, 1) := by
  refine dec_in (q := p + 1) ?_ (l1 p)
  have e := by1_u h
  unfold Decoder.instr
  show Except.bind ((Reader.u1 : Decoder Nat) c p) _ = _
  rw [e]
  rfl
theorem o_83 {c : ByteArray} {p : Nat} (h : by1 c p 83 = true) : decode c p = .ok (.aastore, 1) := by
  refine dec_in (q := p + 1) ?_ (l1 p)
  have e := by1_u h
  unfold Decoder.instr
  show Except.bind ((Reader.u1 : Decoder Nat) c p) _ = _
  rw [e]
  rfl
theorem o_84 {c : ByteArray} {p : Nat} (h : by1 c p 84 = true) : decode c p = .ok (.bastore, 1) := by
  refine dec_in (q := p + 1) ?_ (l1 p)
  have e := by1_u h
  unfold Decoder.instr
  show Except.bind ((Reader.u1 : Decoder Nat) c p) _ = _
  rw [e]
  rfl
theorem o_87 {c : ByteArray} {p : Nat} (h : by1 c p 87 = true) : decode c p = .ok (.pop, 1) := by
  refine dec_in (q := p + 1) ?_ (l1 p)
  have e := by1_u h
  unfold Decoder.instr
  show Except.bind ((Reader.u1 : Decoder Nat) c p) _ = _
  rw [e]
  rfl
theorem o_88 {c : ByteArray} {p : Nat} (h : by1 c p 88 = true) : decode c p = .ok (.pop2, 1) := by
  refine dec_in (q := p + 1) ?_ (l1 p)
  have e := by1_u h
  unfold Decoder.instr
  show Except.bind ((Reader.u1 : Decoder Nat) c p) _ = _
  rw [e]
  rfl
theorem o_89 {c : ByteArray} {p : Nat} (h : by1 c p 89 = true) : decode c p = .ok (.dup, 1) := by
  refine dec_in (q := p + 1) ?_ (l1 p)
  have e := by1_u h
  unfold Decoder.instr
  show Except.bind ((Reader.u1 : Decoder Nat) c p) _ = _
  rw [e]
  rfl
theorem o_92 {c : ByteArray} {p : Nat} (h : by1 c p 92 = true) : decode c p = .ok (.dup2, 1) := by
  refine dec_in (q := p + 1) ?_ (l1 p)
  have e := by1_u h
  unfold Decoder.instr
  show Except.bind ((Reader.u1 : Decoder Nat) c p) _ = _
  rw [e]
  rfl
theorem o_96 {c : ByteArray} {p : Nat} (h : by1 c p 96 = true) : decode c p = .ok (.iadd, 1) := by
  refine dec_in (q := p + 1) ?_ (l1 p)
  have e := by1_u h
  unfold Decoder.instr
  show Except.bind ((Reader.u1 : Decoder Nat) c p) _ = _
  rw [e]
  rfl
theorem o_100 {c : ByteArray} {p : Nat} (h : by1 c p 100 = true) : decode c p = .ok (.isub, 1) := by
  refine dec_in (q := p + 1) ?_ (l1 p)
  have e := by1_u h
  unfold Decoder.instr
  show Except.bind ((Reader.u1 : Decoder Nat) c p) _ = _
  rw [e]
  rfl
theorem o_104 {c : ByteArray} {p : Nat} (h : by1 c p 104 = true) : decode c p = .ok (.imul, 1) := by
  refine dec_in (q := p + 1) ?_ (l1 p)
  have e := by1_u h
  unfold Decoder.instr
  show Except.bind ((Reader.u1 : Decoder Nat) c p) _ = _
  rw [e]
  rfl
theorem o_108 {c : ByteArray} {p : Nat} (h : by1 c p 108 = true) : decode c p = .ok (.idiv, 1) := by
  refine dec_in (q := p + 1) ?_ (l1 p)
  have e := by1_u h
  unfold Decoder.instr
  show Except.bind ((Reader.u1 : Decoder Nat) c p) _ = _
  rw [e]
  rfl
theorem o_112 {c : ByteArray} {p : Nat} (h : by1 c p 112 = true) : decode c p = .ok (.irem, 1) := by
  refine dec_in (q := p + 1) ?_ (l1 p)
  have e := by1_u h
  unfold Decoder.instr
  show Except.bind ((Reader.u1 : Decoder Nat) c p) _ = _
  rw [e]
  rfl
theorem o_116 {c : ByteArray} {p : Nat} (h : by1 c p 116 = true) : decode c p = .ok (.ineg, 1) := by
  refine dec_in (q := p + 1) ?_ (l1 p)
  have e := by1_u h
  unfold Decoder.instr
  show Except.bind ((Reader.u1 : Decoder Nat) c p) _ = _
  rw [e]
  rfl
theorem o_120 {c : ByteArray} {p : Nat} (h : by1 c p 120 = true) : decode c p = .ok (.ishl, 1) := by
  refine dec_in (q := p + 1) ?_ (l1 p)
  have e := by1_u h
  unfold Decoder.instr
  show Except.bind ((Reader.u1 : Decoder Nat) c p) _ = _
  rw [e]
  rfl
theorem o_121 {c : ByteArray} {p : Nat} (h : by1 c p 121 = true) : decode c p = .ok (.lshl, 1) := by
  refine dec_in (q := p + 1) ?_ (l1 p)
  have e := by1_u h
  unfold Decoder.instr
  show Except.bind ((Reader.u1 : Decoder Nat) c p) _ = _
  rw [e]
  rfl
theorem o_122 {c : ByteArray} {p : Nat} (h : by1 c p 122 = true) : decode c p = .ok (.ishr, 1) := by
  refine dec_in (q := p + 1) ?_ (l1 p)
  have e := by1_u h
  unfold Decoder.instr
  show Except.bind ((Reader.u1 : Decoder Nat) c p) _ = _
  rw [e]
  rfl
theorem o_124 {c : ByteArray} {p : Nat} (h : by1 c p 124 = true) : decode c p = .ok (.iushr, 1) := by
  refine dec_in (q := p + 1) ?_ (l1 p)
  have e := by1_u h
  unfold Decoder.instr
  show Except.bind ((Reader.u1 : Decoder Nat) c p) _ = _
  rw [e]
  rfl
theorem o_126 {c : ByteArray} {p : Nat} (h : by1 c p 126 = true) : decode c p = .ok (.iand, 1) := by
  refine dec_in (q := p + 1) ?_ (l1 p)
  have e := by1_u h
  unfold Decoder.instr
  show Except.bind ((Reader.u1 : Decoder Nat) c p) _ = _
  rw [e]
  rfl
theorem o_127 {c : ByteArray} {p : Nat} (h : by1 c p 127 = true) : decode c p = .ok (.land, 1) := by
  refine dec_in (q := p + 1) ?_ (l1 p)
  have e := by1_u h
  unfold Decoder.instr
  show Except.bind ((Reader.u1 : Decoder Nat) c p) _ = _
  rw [e]
  rfl
theorem o_128 {c : ByteArray} {p : Nat} (h : by1 c p 128 = true) : decode c p = .ok (.ior, 1) := by
  refine dec_in (q := p + 1) ?_ (l1 p)
  have e := by1_u h
  unfold Decoder.instr
  show Except.bind ((Reader.u1 : Decoder Nat) c p) _ = _
  rw [e]
  rfl
theorem o_129 {c : ByteArray} {p : Nat} (h : by1 c p 129 = true) : decode c p = .ok (.lor, 1) := by
  refine dec_in (q := p + 1) ?_ (l1 p)
  have e := by1_u h
  unfold Decoder.instr
  show Except.bind ((Reader.u1 : Decoder Nat) c p) _ = _
  rw [e]
  rfl
theorem o_130 {c : ByteArray} {p : Nat} (h : by1 c p 130 = true) : decode c p = .ok (.ixor, 1) := by
  refine dec_in (q := p + 1) ?_ (l1 p)
  have e := by1_u h
  unfold Decoder.instr
  show Except.bind ((Reader.u1 : Decoder Nat) c p) _ = _
  rw [e]
  rfl
theorem o_132 {c : ByteArray} {p k : Nat} {v : Int} (h : by3 c p 132 (opI k v) = true) : decode c p = .ok (.iinc k v, 3) := by
  refine dec_in (q := p + 1 + 1 + 1) ?_ (l3 p)
  obtain ⟨e, a, b, e2, e3, hv⟩ := by3_u h
  have hw := (Bool.and_eq_true _ _).mp hv
  have h1 := Nat.eq_of_beq_eq_true hw.1
  have h2 := of_decide_eq_true hw.2
  subst h1; subst h2
  unfold Decoder.instr
  show Except.bind ((Reader.u1 : Decoder Nat) c p) _ = _
  rw [e]
  show Except.bind ((Reader.u1 : Decoder Nat) c (p + 1)) _ = _; rw [e2]
  show Except.bind ((Reader.s1 : Decoder Int) c (p + 1 + 1)) _ = _; rw [s1_ok e3]; rfl
theorem o_133 {c : ByteArray} {p : Nat} (h : by1 c p 133 = true) : decode c p = .ok (.i2l, 1) := by
  refine dec_in (q := p + 1) ?_ (l1 p)
  have e := by1_u h
  unfold Decoder.instr
  show Except.bind ((Reader.u1 : Decoder Nat) c p) _ = _
  rw [e]
  rfl
theorem o_136 {c : ByteArray} {p : Nat} (h : by1 c p 136 = true) : decode c p = .ok (.l2i, 1) := by
  refine dec_in (q := p + 1) ?_ (l1 p)
  have e := by1_u h
  unfold Decoder.instr
  show Except.bind ((Reader.u1 : Decoder Nat) c p) _ = _
  rw [e]
  rfl
theorem o_145 {c : ByteArray} {p : Nat} (h : by1 c p 145 = true) : decode c p = .ok (.i2b, 1) := by
  refine dec_in (q := p + 1) ?_ (l1 p)
  have e := by1_u h
  unfold Decoder.instr
  show Except.bind ((Reader.u1 : Decoder Nat) c p) _ = _
  rw [e]
  rfl
theorem o_146 {c : ByteArray} {p : Nat} (h : by1 c p 146 = true) : decode c p = .ok (.i2c, 1) := by
  refine dec_in (q := p + 1) ?_ (l1 p)
  have e := by1_u h
  unfold Decoder.instr
  show Except.bind ((Reader.u1 : Decoder Nat) c p) _ = _
  rw [e]
  rfl
theorem o_147 {c : ByteArray} {p : Nat} (h : by1 c p 147 = true) : decode c p = .ok (.i2s, 1) := by
  refine dec_in (q := p + 1) ?_ (l1 p)
  have e := by1_u h
  unfold Decoder.instr
  show Except.bind ((Reader.u1 : Decoder Nat) c p) _ = _
  rw [e]
  rfl
theorem o_148 {c : ByteArray} {p : Nat} (h : by1 c p 148 = true) : decode c p = .ok (.lcmp, 1) := by
  refine dec_in (q := p + 1) ?_ (l1 p)
  have e := by1_u h
  unfold Decoder.instr
  show Except.bind ((Reader.u1 : Decoder Nat) c p) _ = _
  rw [e]
  rfl
theorem o_153 {c : ByteArray} {p : Nat} {v : Int} (h : by3 c p 153 (opS2 v) = true) : decode c p = .ok (.ifCond .eq v, 3) := by
  refine dec_in (q := p + 1 + 1 + 1) ?_ (l3 p)
  obtain ⟨e, a, b, e2, e3, hv⟩ := by3_u h
  have hv := of_decide_eq_true hv
  subst hv
  unfold Decoder.instr
  show Except.bind ((Reader.u1 : Decoder Nat) c p) _ = _
  rw [e]
  show Except.bind ((Reader.s2 : Decoder Int) c (p + 1)) _ = _; rw [s2_ok e2 e3]; rfl
theorem o_154 {c : ByteArray} {p : Nat} {v : Int} (h : by3 c p 154 (opS2 v) = true) : decode c p = .ok (.ifCond .ne v, 3) := by
  refine dec_in (q := p + 1 + 1 + 1) ?_ (l3 p)
  obtain ⟨e, a, b, e2, e3, hv⟩ := by3_u h
  have hv := of_decide_eq_true hv
  subst hv
  unfold Decoder.instr
  show Except.bind ((Reader.u1 : Decoder Nat) c p) _ = _
  rw [e]
  show Except.bind ((Reader.s2 : Decoder Int) c (p + 1)) _ = _; rw [s2_ok e2 e3]; rfl
theorem o_155 {c : ByteArray} {p : Nat} {v : Int} (h : by3 c p 155 (opS2 v) = true) : decode c p = .ok (.ifCond .lt v, 3) := by
  refine dec_in (q := p + 1 + 1 + 1) ?_ (l3 p)
  obtain ⟨e, a, b, e2, e3, hv⟩ := by3_u h
  have hv := of_decide_eq_true hv
  subst hv
  unfold Decoder.instr
  show Except.bind ((Reader.u1 : Decoder Nat) c p) _ = _
  rw [e]
  show Except.bind ((Reader.s2 : Decoder Int) c (p + 1)) _ = _; rw [s2_ok e2 e3]; rfl
theorem o_156 {c : ByteArray} {p : Nat} {v : Int} (h : by3 c p 156 (opS2 v) = true) : decode c p = .ok (.ifCond .ge v, 3) := by
  refine dec_in (q := p + 1 + 1 + 1) ?_ (l3 p)
  obtain ⟨e, a, b, e2, e3, hv⟩ := by3_u h
  have hv := of_decide_eq_true hv
  subst hv
  unfold Decoder.instr
  show Except.bind ((Reader.u1 : Decoder Nat) c p) _ = _
  rw [e]
  show Except.bind ((Reader.s2 : Decoder Int) c (p + 1)) _ = _; rw [s2_ok e2 e3]; rfl
theorem o_158 {c : ByteArray} {p : Nat} {v : Int} (h : by3 c p 158 (opS2 v) = true) : decode c p = .ok (.ifCond .le v, 3) := by
  refine dec_in (q := p + 1 + 1 + 1) ?_ (l3 p)
  obtain ⟨e, a, b, e2, e3, hv⟩ := by3_u h
  have hv := of_decide_eq_true hv
  subst hv
  unfold Decoder.instr
  show Except.bind ((Reader.u1 : Decoder Nat) c p) _ = _
  rw [e]
  show Except.bind ((Reader.s2 : Decoder Int) c (p + 1)) _ = _; rw [s2_ok e2 e3]; rfl
theorem o_159 {c : ByteArray} {p : Nat} {v : Int} (h : by3 c p 159 (opS2 v) = true) : decode c p = .ok (.if_icmp .eq v, 3) := by
  refine dec_in (q := p + 1 + 1 + 1) ?_ (l3 p)
  obtain ⟨e, a, b, e2, e3, hv⟩ := by3_u h
  have hv := of_decide_eq_true hv
  subst hv
  unfold Decoder.instr
  show Except.bind ((Reader.u1 : Decoder Nat) c p) _ = _
  rw [e]
  show Except.bind ((Reader.s2 : Decoder Int) c (p + 1)) _ = _; rw [s2_ok e2 e3]; rfl
theorem o_160 {c : ByteArray} {p : Nat} {v : Int} (h : by3 c p 160 (opS2 v) = true) : decode c p = .ok (.if_icmp .ne v, 3) := by
  refine dec_in (q := p + 1 + 1 + 1) ?_ (l3 p)
  obtain ⟨e, a, b, e2, e3, hv⟩ := by3_u h
  have hv := of_decide_eq_true hv
  subst hv
  unfold Decoder.instr
  show Except.bind ((Reader.u1 : Decoder Nat) c p) _ = _
  rw [e]
  show Except.bind ((Reader.s2 : Decoder Int) c (p + 1)) _ = _; rw [s2_ok e2 e3]; rfl
theorem o_161 {c : ByteArray} {p : Nat} {v : Int} (h : by3 c p 161 (opS2 v) = true) : decode c p = .ok (.if_icmp .lt v, 3) := by
  refine dec_in (q := p + 1 + 1 + 1) ?_ (l3 p)
  obtain ⟨e, a, b, e2, e3, hv⟩ := by3_u h
  have hv := of_decide_eq_true hv
  subst hv
  unfold Decoder.instr
  show Except.bind ((Reader.u1 : Decoder Nat) c p) _ = _
  rw [e]
  show Except.bind ((Reader.s2 : Decoder Int) c (p + 1)) _ = _; rw [s2_ok e2 e3]; rfl
theorem o_162 {c : ByteArray} {p : Nat} {v : Int} (h : by3 c p 162 (opS2 v) = true) : decode c p = .ok (.if_icmp .ge v, 3) := by
  refine dec_in (q := p + 1 + 1 + 1) ?_ (l3 p)
  obtain ⟨e, a, b, e2, e3, hv⟩ := by3_u h
  have hv := of_decide_eq_true hv
  subst hv
  unfold Decoder.instr
  show Except.bind ((Reader.u1 : Decoder Nat) c p) _ = _
  rw [e]
  show Except.bind ((Reader.s2 : Decoder Int) c (p + 1)) _ = _; rw [s2_ok e2 e3]; rfl
theorem o_163 {c : ByteArray} {p : Nat} {v : Int} (h : by3 c p 163 (opS2 v) = true) : decode c p = .ok (.if_icmp .gt v, 3) := by
  refine dec_in (q := p + 1 + 1 + 1) ?_ (l3 p)
  obtain ⟨e, a, b, e2, e3, hv⟩ := by3_u h
  have hv := of_decide_eq_true hv
  subst hv
  unfold Decoder.instr
  show Except.bind ((Reader.u1 : Decoder Nat) c p) _ = _
  rw [e]
  show Except.bind ((Reader.s2 : Decoder Int) c (p + 1)) _ = _; rw [s2_ok e2 e3]; rfl
theorem o_164 {c : ByteArray} {p : Nat} {v : Int} (h : by3 c p 164 (opS2 v) = true) : decode c p = .ok (.if_icmp .le v, 3) := by
  refine dec_in (q := p + 1 + 1 + 1) ?_ (l3 p)
  obtain ⟨e, a, b, e2, e3, hv⟩ := by3_u h
  have hv := of_decide_eq_true hv
  subst hv
  unfold Decoder.instr
  show Except.bind ((Reader.u1 : Decoder Nat) c p) _ = _
  rw [e]
  show Except.bind ((Reader.s2 : Decoder Int) c (p + 1)) _ = _; rw [s2_ok e2 e3]; rfl
theorem o_167 {c : ByteArray} {p : Nat} {v : Int} (h : by3 c p 167 (opS2 v) = true) : decode c p = .ok (.goto v, 3) := by
  refine dec_in (q := p + 1 + 1 + 1) ?_ (l3 p)
  obtain ⟨e, a, b, e2, e3, hv⟩ := by3_u h
  have hv := of_decide_eq_true hv
  subst hv
  unfold Decoder.instr
  show Except.bind ((Reader.u1 : Decoder Nat) c p) _ = _
  rw [e]
  show Except.bind ((Reader.s2 : Decoder Int) c (p + 1)) _ = _; rw [s2_ok e2 e3]; rfl
theorem o_172 {c : ByteArray} {p : Nat} (h : by1 c p 172 = true) : decode c p = .ok (.ireturn, 1) := by
  refine dec_in (q := p + 1) ?_ (l1 p)
  have e := by1_u h
  unfold Decoder.instr
  show Except.bind ((Reader.u1 : Decoder Nat) c p) _ = _
  rw [e]
  rfl
theorem o_173 {c : ByteArray} {p : Nat} (h : by1 c p 173 = true) : decode c p = .ok (.lreturn, 1) := by
  refine dec_in (q := p + 1) ?_ (l1 p)
  have e := by1_u h
  unfold Decoder.instr
  show Except.bind ((Reader.u1 : Decoder Nat) c p) _ = _
  rw [e]
  rfl
theorem o_176 {c : ByteArray} {p : Nat} (h : by1 c p 176 = true) : decode c p = .ok (.areturn, 1) := by
  refine dec_in (q := p + 1) ?_ (l1 p)
  have e := by1_u h
  unfold Decoder.instr
  show Except.bind ((Reader.u1 : Decoder Nat) c p) _ = _
  rw [e]
  rfl
theorem o_177 {c : ByteArray} {p : Nat} (h : by1 c p 177 = true) : decode c p = .ok (.return_, 1) := by
  refine dec_in (q := p + 1) ?_ (l1 p)
  have e := by1_u h
  unfold Decoder.instr
  show Except.bind ((Reader.u1 : Decoder Nat) c p) _ = _
  rw [e]
  rfl
theorem o_178 {c : ByteArray} {p : Nat} {v : Nat} (h : by3 c p 178 (opU2 v) = true) : decode c p = .ok (.getstatic v, 3) := by
  refine dec_in (q := p + 1 + 1 + 1) ?_ (l3 p)
  obtain ⟨e, a, b, e2, e3, hv⟩ := by3_u h
  have hv := Nat.eq_of_beq_eq_true hv
  subst hv
  unfold Decoder.instr
  show Except.bind ((Reader.u1 : Decoder Nat) c p) _ = _
  rw [e]
  show Except.bind ((Reader.u2 : Decoder Nat) c (p + 1)) _ = _; rw [u2_ok e2 e3]; rfl
theorem o_180 {c : ByteArray} {p : Nat} {v : Nat} (h : by3 c p 180 (opU2 v) = true) : decode c p = .ok (.getfield v, 3) := by
  refine dec_in (q := p + 1 + 1 + 1) ?_ (l3 p)
  obtain ⟨e, a, b, e2, e3, hv⟩ := by3_u h
  have hv := Nat.eq_of_beq_eq_true hv
  subst hv
  unfold Decoder.instr
  show Except.bind ((Reader.u1 : Decoder Nat) c p) _ = _
  rw [e]
  show Except.bind ((Reader.u2 : Decoder Nat) c (p + 1)) _ = _; rw [u2_ok e2 e3]; rfl
theorem o_181 {c : ByteArray} {p : Nat} {v : Nat} (h : by3 c p 181 (opU2 v) = true) : decode c p = .ok (.putfield v, 3) := by
  refine dec_in (q := p + 1 + 1 + 1) ?_ (l3 p)
  obtain ⟨e, a, b, e2, e3, hv⟩ := by3_u h
  have hv := Nat.eq_of_beq_eq_true hv
  subst hv
  unfold Decoder.instr
  show Except.bind ((Reader.u1 : Decoder Nat) c p) _ = _
  rw [e]
  show Except.bind ((Reader.u2 : Decoder Nat) c (p + 1)) _ = _; rw [u2_ok e2 e3]; rfl
theorem o_182 {c : ByteArray} {p : Nat} {v : Nat} (h : by3 c p 182 (opU2 v) = true) : decode c p = .ok (.invokevirtual v, 3) := by
  refine dec_in (q := p + 1 + 1 + 1) ?_ (l3 p)
  obtain ⟨e, a, b, e2, e3, hv⟩ := by3_u h
  have hv := Nat.eq_of_beq_eq_true hv
  subst hv
  unfold Decoder.instr
  show Except.bind ((Reader.u1 : Decoder Nat) c p) _ = _
  rw [e]
  show Except.bind ((Reader.u2 : Decoder Nat) c (p + 1)) _ = _; rw [u2_ok e2 e3]; rfl
theorem o_183 {c : ByteArray} {p : Nat} {v : Nat} (h : by3 c p 183 (opU2 v) = true) : decode c p = .ok (.invokespecial v, 3) := by
  refine dec_in (q := p + 1 + 1 + 1) ?_ (l3 p)
  obtain ⟨e, a, b, e2, e3, hv⟩ := by3_u h
  have hv := Nat.eq_of_beq_eq_true hv
  subst hv
  unfold Decoder.instr
  show Except.bind ((Reader.u1 : Decoder Nat) c p) _ = _
  rw [e]
  show Except.bind ((Reader.u2 : Decoder Nat) c (p + 1)) _ = _; rw [u2_ok e2 e3]; rfl
theorem o_184 {c : ByteArray} {p : Nat} {v : Nat} (h : by3 c p 184 (opU2 v) = true) : decode c p = .ok (.invokestatic v, 3) := by
  refine dec_in (q := p + 1 + 1 + 1) ?_ (l3 p)
  obtain ⟨e, a, b, e2, e3, hv⟩ := by3_u h
  have hv := Nat.eq_of_beq_eq_true hv
  subst hv
  unfold Decoder.instr
  show Except.bind ((Reader.u1 : Decoder Nat) c p) _ = _
  rw [e]
  show Except.bind ((Reader.u2 : Decoder Nat) c (p + 1)) _ = _; rw [u2_ok e2 e3]; rfl
theorem o_187 {c : ByteArray} {p : Nat} {v : Nat} (h : by3 c p 187 (opU2 v) = true) : decode c p = .ok (.new v, 3) := by
  refine dec_in (q := p + 1 + 1 + 1) ?_ (l3 p)
  obtain ⟨e, a, b, e2, e3, hv⟩ := by3_u h
  have hv := Nat.eq_of_beq_eq_true hv
  subst hv
  unfold Decoder.instr
  show Except.bind ((Reader.u1 : Decoder Nat) c p) _ = _
  rw [e]
  show Except.bind ((Reader.u2 : Decoder Nat) c (p + 1)) _ = _; rw [u2_ok e2 e3]; rfl
theorem o_189 {c : ByteArray} {p : Nat} {v : Nat} (h : by3 c p 189 (opU2 v) = true) : decode c p = .ok (.anewarray v, 3) := by
  refine dec_in (q := p + 1 + 1 + 1) ?_ (l3 p)
  obtain ⟨e, a, b, e2, e3, hv⟩ := by3_u h
  have hv := Nat.eq_of_beq_eq_true hv
  subst hv
  unfold Decoder.instr
  show Except.bind ((Reader.u1 : Decoder Nat) c p) _ = _
  rw [e]
  show Except.bind ((Reader.u2 : Decoder Nat) c (p + 1)) _ = _; rw [u2_ok e2 e3]; rfl
theorem o_190 {c : ByteArray} {p : Nat} (h : by1 c p 190 = true) : decode c p = .ok (.arraylength, 1) := by
  refine dec_in (q := p + 1) ?_ (l1 p)
  have e := by1_u h
  unfold Decoder.instr
  show Except.bind ((Reader.u1 : Decoder Nat) c p) _ = _
  rw [e]
  rfl
theorem o_191 {c : ByteArray} {p : Nat} (h : by1 c p 191 = true) : decode c p = .ok (.athrow, 1) := by
  refine dec_in (q := p + 1) ?_ (l1 p)
  have e := by1_u h
  unfold Decoder.instr
  show Except.bind ((Reader.u1 : Decoder Nat) c p) _ = _
  rw [e]
  rfl
theorem o_193 {c : ByteArray} {p : Nat} {v : Nat} (h : by3 c p 193 (opU2 v) = true) : decode c p = .ok (.instanceof v, 3) := by
  refine dec_in (q := p + 1 + 1 + 1) ?_ (l3 p)
  obtain ⟨e, a, b, e2, e3, hv⟩ := by3_u h
  have hv := Nat.eq_of_beq_eq_true hv
  subst hv
  unfold Decoder.instr
  show Except.bind ((Reader.u1 : Decoder Nat) c p) _ = _
  rw [e]
  show Except.bind ((Reader.u2 : Decoder Nat) c (p + 1)) _ = _; rw [u2_ok e2 e3]; rfl
theorem o_198 {c : ByteArray} {p : Nat} {v : Int} (h : by3 c p 198 (opS2 v) = true) : decode c p = .ok (.ifnull v, 3) := by
  refine dec_in (q := p + 1 + 1 + 1) ?_ (l3 p)
  obtain ⟨e, a, b, e2, e3, hv⟩ := by3_u h
  have hv := of_decide_eq_true hv
  subst hv
  unfold Decoder.instr
  show Except.bind ((Reader.u1 : Decoder Nat) c p) _ = _
  rw [e]
  show Except.bind ((Reader.s2 : Decoder Int) c (p + 1)) _ = _; rw [s2_ok e2 e3]; rfl
theorem o_199 {c : ByteArray} {p : Nat} {v : Int} (h : by3 c p 199 (opS2 v) = true) : decode c p = .ok (.ifnonnull v, 3) := by
  refine dec_in (q := p + 1 + 1 + 1) ?_ (l3 p)
  obtain ⟨e, a, b, e2, e3, hv⟩ := by3_u h
  have hv := of_decide_eq_true hv
  subst hv
  unfold Decoder.instr
  show Except.bind ((Reader.u1 : Decoder Nat) c p) _ = _
  rw [e]
  show Except.bind ((Reader.s2 : Decoder Int) c (p + 1)) _ = _; rw [s2_ok e2 e3]; rfl
theorem on_boolean {c : ByteArray} {p : Nat} (h : by2 c p 188 (opU1 4) = true) : decode c p = .ok (.newarray .boolean, 2) := by
  refine dec_in (q := p + 1 + 1) ?_ (l2 p)
  obtain ⟨e, a, e2, hv⟩ := by2_u h
  have hv := Nat.eq_of_beq_eq_true hv
  subst hv
  unfold Decoder.instr
  show Except.bind ((Reader.u1 : Decoder Nat) c p) _ = _
  rw [e]
  show Except.bind ((Reader.u1 : Decoder Nat) c (p + 1)) _ = _; rw [e2]; rfl
theorem on_byte {c : ByteArray} {p : Nat} (h : by2 c p 188 (opU1 8) = true) : decode c p = .ok (.newarray .byte, 2) := by
  refine dec_in (q := p + 1 + 1) ?_ (l2 p)
  obtain ⟨e, a, e2, hv⟩ := by2_u h
  have hv := Nat.eq_of_beq_eq_true hv
  subst hv
  unfold Decoder.instr
  show Except.bind ((Reader.u1 : Decoder Nat) c p) _ = _
  rw [e]
  show Except.bind ((Reader.u1 : Decoder Nat) c (p + 1)) _ = _; rw [e2]; rfl
theorem on_int {c : ByteArray} {p : Nat} (h : by2 c p 188 (opU1 10) = true) : decode c p = .ok (.newarray .int, 2) := by
  refine dec_in (q := p + 1 + 1) ?_ (l2 p)
  obtain ⟨e, a, e2, hv⟩ := by2_u h
  have hv := Nat.eq_of_beq_eq_true hv
  subst hv
  unfold Decoder.instr
  show Except.bind ((Reader.u1 : Decoder Nat) c p) _ = _
  rw [e]
  show Except.bind ((Reader.u1 : Decoder Nat) c (p + 1)) _ = _; rw [e2]; rfl
theorem on_long {c : ByteArray} {p : Nat} (h : by2 c p 188 (opU1 11) = true) : decode c p = .ok (.newarray .long, 2) := by
  refine dec_in (q := p + 1 + 1) ?_ (l2 p)
  obtain ⟨e, a, e2, hv⟩ := by2_u h
  have hv := Nat.eq_of_beq_eq_true hv
  subst hv
  unfold Decoder.instr
  show Except.bind ((Reader.u1 : Decoder Nat) c p) _ = _
  rw [e]
  show Except.bind ((Reader.u1 : Decoder Nat) c (p + 1)) _ = _; rw [e2]; rfl
noncomputable def byl1 (l : List UInt8) (n : Nat) : Bool := match l with
  | x :: _ => Nat.beq x.toNat n
  | _ => false
noncomputable def byl2 (l : List UInt8) (n : Nat) (q : Nat → Bool) : Bool := match l with
  | x :: y :: _ => Nat.beq x.toNat n && q y.toNat
  | _ => false
noncomputable def byl3 (l : List UInt8) (n : Nat) (q : Nat → Nat → Bool) : Bool := match l with
  | x :: y :: z :: _ => Nat.beq x.toNat n && q y.toNat z.toNat
  | _ => false
theorem pre_at {L l : List UInt8} {k j m : Nat} (h : (L.drop k).take m = l) : l.drop j = (L.drop (k + j)).take (m - j) := by
  rw [← h, List.drop_take, List.drop_drop]
theorem by1_at {c : ByteArray} {k j m n : Nat} {l : List UInt8} (h : (c.data.toList.drop k).take m = l) (hb : byl1 (l.drop j) n = true) : by1 c (k + j) n = true := by
  rw [pre_at (j := j) h] at hb
  generalize m - j = w at hb
  unfold by1
  cases e : c.data.toList.drop (k + j) with
  | nil => rw [e, List.take_nil] at hb; cases hb
  | cons x r =>
    rw [e] at hb
    cases w with
    | zero => cases hb
    | succ i => exact hb
theorem by2_at {c : ByteArray} {k j m n : Nat} {q : Nat → Bool} {l : List UInt8} (h : (c.data.toList.drop k).take m = l) (hb : byl2 (l.drop j) n q = true) : by2 c (k + j) n q = true := by
  rw [pre_at (j := j) h] at hb
  generalize m - j = w at hb
  unfold by2
  rcases e : c.data.toList.drop (k + j) with _ | ⟨x, _ | ⟨y, r⟩⟩
  · rw [e, List.take_nil] at hb; cases hb
  · rw [e] at hb; rcases w with _ | i
    · cases hb
    · rw [List.take_succ_cons, List.take_nil] at hb; cases hb
  · rw [e] at hb; rcases w with _ | _ | i
    · cases hb
    · cases hb
    · exact hb
theorem by3_at {c : ByteArray} {k j m n : Nat} {q : Nat → Nat → Bool} {l : List UInt8} (h : (c.data.toList.drop k).take m = l) (hb : byl3 (l.drop j) n q = true) : by3 c (k + j) n q = true := by
  rw [pre_at (j := j) h] at hb
  generalize m - j = w at hb
  unfold by3
  rcases e : c.data.toList.drop (k + j) with _ | ⟨x, _ | ⟨y, _ | ⟨z, r⟩⟩⟩
  · rw [e, List.take_nil] at hb; cases hb
  · rw [e] at hb; rcases w with _ | i
    · cases hb
    · rw [List.take_succ_cons, List.take_nil] at hb; cases hb
  · rw [e] at hb; rcases w with _ | _ | i
    · cases hb
    · cases hb
    · rw [List.take_succ_cons, List.take_succ_cons, List.take_nil] at hb; cases hb
  · rw [e] at hb; rcases w with _ | _ | _ | i
    · cases hb
    · cases hb
    · cases hb
    · exact hb
