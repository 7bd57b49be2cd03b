/-! each cell of it -/
noncomputable def fl2 (g : Nat → Nat → Value) : Nat → List Nat → List Value
  | _, [] => []
  | n, c :: cs => g n c :: fl2 g (n + 1) cs
theorem fl2_eq (g : Nat → Nat → Value) : ∀ (l : List Nat) (n : Nat), l.mapIdx (fun k c => g (k + n) c) = fl2 g n l := by
  intro l
  induction l with
  | nil => intro n; rfl
  | cons c cs ih =>
    intro n
    rw [List.mapIdx_cons]
    show g (0 + n) c :: _ = g n c :: fl2 g (n + 1) cs
    rw [Nat.zero_add, ← ih (n + 1)]
    congr 1
    congr 1
    funext i d
    show g (i + 1 + n) d = g (i + (n + 1)) d
    rw [Nat.add_assoc, Nat.add_comm 1 n]
theorem flds_2 {ad : Nat → Nat} {id ci : Nat} {f : Nat → Int32} {r : Nat → Option Nat} : flds ad id f r ci = fl2 (fun k c => fv ad id f r k c) 0 (tplT.getD ci []) := by
  rw [← fl2_eq]
  rfl
set_option maxRecDepth 100000 in
set_option maxHeartbeats 4000000 in
theorem flds74 (ad : Nat → Nat) : flds ad 74 stM stRn 12 = [.int (0 : Int32), .int (0 : Int32), .int (0 : Int32), .ref (ad 103), .ref (ad 104), .ref (ad 105), .ref (ad 106), .ref (ad 107), .ref (ad 108), .ref (ad 109), .ref (ad 110), .int (0 : Int32), .int (-1 : Int32), .int (0 : Int32), .int (0 : Int32), .int (0 : Int32), .ref (ad 116), .ref (ad 117), .ref (ad 118), .ref (ad 119), .ref (ad 120), .ref (ad 121), .ref (ad 122), .ref (ad 123), .int (0 : Int32), .int (0 : Int32), .int (0 : Int32), .ref (ad 127), .int (-1 : Int32), .ref (ad 129), .int (0 : Int32), .ref (ad 131), .ref (ad 132), .int (0 : Int32), .ref (ad 134), .ref (ad 135), .ref (ad 136), .ref (ad 137), .ref (ad 138), .ref (ad 139), .ref (ad 140), .int (0 : Int32), .ref (ad 142), .ref (ad 143), .ref (ad 144), .int (0 : Int32), .int (0 : Int32), .ref (ad 147), .ref (ad 148), .int (0 : Int32), .int (-1 : Int32), .int (0 : Int32), .int (0 : Int32), .int (0 : Int32), .int (0 : Int32), .int (0 : Int32), .ref (ad 156), .ref (ad 157), .ref (ad 158), .ref (ad 159), .ref (ad 160), .ref (ad 161), .ref (ad 162), .ref (ad 163), .ref (ad 164), .ref (ad 165), .ref (ad 166), .ref (ad 167), .ref (ad 168), .int (0 : Int32), .ref (ad 170), .ref (ad 171), .ref (ad 172), .ref (ad 173), .ref (ad 174)] := by
  rw [flds_2]
  rfl
noncomputable def stQ (h0 x1 x3 x4 x5 x6 x7 x8 x9 x10 x11 x12 x13 x14 x15 x16 x17 x23 x25 x26 x27 x28 x29 x30 x31 x32 x33 x34 x35 x36 x37 x38 x39 x45 x47 x48 x49 x50 x51 x52 x53 x54 x55 x56 x57 x58 x59 x60 x61 x70 x80 x90 x97 x99 x105 x112 x119 x126 x128 x129 x130 x131 x143 x145 x151 x153 x159 x161 x167 x169 x175 x177 x183 x185 h1 m10 m17 m24 m31 m38 m45 m52 m59 m81 m88 m95 m102 m109 m116 m123 m130 m146 m213 m223 m230 m240 m247 m254 m261 m268 m275 m282 m292 m299 m306 m319 m326 m354 m361 m368 m375 m382 m389 m396 m403 m410 m417 m424 m431 m438 m448 m455 m480 m487 m494 : Nat) : List Nat := [h0, x1, x3, x4, x5, x6, x7, x8, x9, x10, x11, x12, x13, x14, x15, x16, x17, x23, x25, x26, x27, x28, x29, x30, x31, x32, x33, x34, x35, x36, x37, x38, x39, x45, x47, x48, x49, x50, x51, x52, x53, x54, x55, x56, x57, x58, x59, x60, x61, x70, x80, x90, x143, x145, x151, x153, x159, x161, x167, x169, x175, x177, x183, x185, x97, x99, x105, x112, x119, x126, x128, x129, x130, x131, h1, 0, 0, 0, 0, 0, 0, 0, 0, 0, 0, 0, 0, 0, 0, 0, 0, 0, 0, 0, 0, 0, 0, 0, 0, 0, 0, 0, 0, m10, m17, m24, m31, m38, m45, m52, m59, 0, 0, 0, 0, 0, m81, m88, m95, m102, m109, m116, m123, m130, 0, 0, 0, m146, 0, m213, 0, m223, m230, 0, m240, m247, m254, m261, m268, m275, m282, 0, m292, m299, m306, 0, 0, m319, m326, 0, 0, 0, 0, 0, 0, 0, m354, m361, m368, m375, m382, m389, m396, m403, m410, m417, m424, m431, m438, 0, m448, m455, m480, m487, m494]
noncomputable def stC0 (V : Vx) (h0 x1 x3 x4 x5 x6 x7 x8 x9 x10 x11 x12 x13 x14 x15 x16 x17 x23 x25 x26 x27 x28 x29 x30 x31 x32 x33 x34 x35 x36 x37 x38 x39 x45 x47 x48 x49 x50 x51 x52 x53 x54 x55 x56 x57 x58 x59 x60 x61 x70 x80 x90 x97 x99 x105 x112 x119 x126 x128 x129 x130 x131 x143 x145 x151 x153 x159 x161 x167 x169 x175 x177 x183 x185 h1 m10 m17 m24 m31 m38 m45 m52 m59 m81 m88 m95 m102 m109 m116 m123 m130 m146 m213 m223 m230 m240 m247 m254 m261 m268 m275 m282 m292 m299 m306 m319 m326 m354 m361 m368 m375 m382 m389 m396 m403 m410 m417 m424 m431 m438 m448 m455 m480 m487 m494 : Nat) : List (Nat × va_E) := [(h0, .inr (11, [.ref x1, .ref x23, .ref x45, .int (0 : Int32), .ref x70, .int (0 : Int32), .ref x80, .int (0 : Int32), .ref x90, .ref x97, .ref x105, .ref x112, .ref x119])), (x1, .inr (1, [.ref x3, .int (0 : Int32), .ref x4, .int (0 : Int32), .ref x5, .ref x6, .ref x7, .ref x8, .ref x9, .int (0 : Int32), .ref x126, .int (-1 : Int32), .ref x10, .ref x12, .ref x14, .ref x16, .ref x17])), (x3, .inl (vC V 4, 6, .inr (.inr (.inr (.inr (fun _ => none)))))), (x4, .inl (vC V 0, (6, .inl (fun _ => 0)))), (x5, .inl (vC V 0, (6, .inl (fun _ => 0)))), (x6, .inl (vC V 0, (6, .inl (fun _ => 0)))), (x7, .inl (vC V 0, (6, .inl (fun _ => 0)))), (x8, .inl (vC V 0, (6, .inl (fun _ => 0)))), (x9, .inl (vC V 0, (24, .inl (fun _ => 0)))), (x10, .inr (5, [.ref x11, .int (0 : Int32)])), (x11, .inl (vC V 0, (18, .inl (fun _ => 0)))), (x12, .inr (5, [.ref x13, .int (0 : Int32)])), (x13, .inl (vC V 0, (10, .inl (fun _ => 0)))), (x14, .inr (5, [.ref x15, .int (0 : Int32)])), (x15, .inl (vC V 0, (8, .inl (fun _ => 0)))), (x16, .inl (vC V 0, (6, .inl (fun _ => 0)))), (x17, .inl (vC V 0, (6, .inl (fun _ => 0)))), (x23, .inr (1, [.ref x25, .int (0 : Int32), .ref x26, .int (0 : Int32), .ref x27, .ref x28, .ref x29, .ref x30, .ref x31, .int (0 : Int32), .ref x126, .int (-1 : Int32), .ref x32, .ref x34, .ref x36, .ref x38, .ref x39])), (x25, .inl (vC V 4, 6, .inr (.inr (.inr (.inr (fun _ => none)))))), (x26, .inl (vC V 0, (6, .inl (fun _ => 0)))), (x27, .inl (vC V 0, (6, .inl (fun _ => 0)))), (x28, .inl (vC V 0, (6, .inl (fun _ => 0)))), (x29, .inl (vC V 0, (6, .inl (fun _ => 0)))), (x30, .inl (vC V 0, (6, .inl (fun _ => 0)))), (x31, .inl (vC V 0, (24, .inl (fun _ => 0)))), (x32, .inr (5, [.ref x33, .int (0 : Int32)])), (x33, .inl (vC V 0, (18, .inl (fun _ => 0)))), (x34, .inr (5, [.ref x35, .int (0 : Int32)])), (x35, .inl (vC V 0, (10, .inl (fun _ => 0)))), (x36, .inr (5, [.ref x37, .int (0 : Int32)])), (x37, .inl (vC V 0, (8, .inl (fun _ => 0)))), (x38, .inl (vC V 0, (6, .inl (fun _ => 0)))), (x39, .inl (vC V 0, (6, .inl (fun _ => 0)))), (x45, .inr (1, [.ref x47, .int (0 : Int32), .ref x48, .int (0 : Int32), .ref x49, .ref x50, .ref x51, .ref x52, .ref x53, .int (0 : Int32), .ref x126, .int (-1 : Int32), .ref x54, .ref x56, .ref x58, .ref x60, .ref x61])), (x47, .inl (vC V 4, 6, .inr (.inr (.inr (.inr (fun _ => none)))))), (x48, .inl (vC V 0, (6, .inl (fun _ => 0)))), (x49, .inl (vC V 0, (6, .inl (fun _ => 0)))), (x50, .inl (vC V 0, (6, .inl (fun _ => 0)))), (x51, .inl (vC V 0, (6, .inl (fun _ => 0)))), (x52, .inl (vC V 0, (6, .inl (fun _ => 0)))), (x53, .inl (vC V 0, (24, .inl (fun _ => 0)))), (x54, .inr (5, [.ref x55, .int (0 : Int32)])), (x55, .inl (vC V 0, (18, .inl (fun _ => 0)))), (x56, .inr (5, [.ref x57, .int (0 : Int32)])), (x57, .inl (vC V 0, (10, .inl (fun _ => 0)))), (x58, .inr (5, [.ref x59, .int (0 : Int32)])), (x59, .inl (vC V 0, (8, .inl (fun _ => 0)))), (x60, .inl (vC V 0, (6, .inl (fun _ => 0)))), (x61, .inl (vC V 0, (6, .inl (fun _ => 0)))), (x70, .inl (vC V 5, 6, .inr (.inr (.inr (.inr (fun _ => none)))))), (x80, .inl (vC V 1, (100, .inl (fun _ => 0)))), (x90, .inl (vC V 6, 6, .inr (.inr (.inr (.inr (va_up (va_up (va_up (va_up (va_up (va_up (fun _ => none) 0 (some x143)) 1 (some x151)) 2 (some x159)) 3 (some x167)) 4 (some x175)) 5 (some x183))))))), (x97, .inr (5, [.ref x99, .int (0 : Int32)])), (x99, .inl (vC V 0, (20, .inl (fun _ => 0)))), (x105, .inl (vC V 0, (5, .inl (fun _ => 0)))), (x112, .inl (vC V 0, (5, .inl (fun _ => 0)))), (x119, .inl (vC V 0, (6, .inl (fun _ => 0)))), (x126, .inr (2, [.int (2 : Int32), .int (1 : Int32), .int (60 : Int32), .ref x128, .int (0 : Int32), .ref x129, .ref x130, .ref x131, .int (0 : Int32), .null, .int (0 : Int32), .int (0 : Int32)])), (x128, .inl (vC V 0, (100, .inl (fun _ => 0)))), (x129, .inl (vC V 0, (10, .inl (fun _ => 0)))), (x130, .inl (vC V 0, (10, .inl (fun _ => 0)))), (x131, .inl (vC V 0, (10, .inl (fun _ => 0)))), (x143, .inr (9, [.ref x145, .int (-1 : Int32), .int (0 : Int32)])), (x145, .inl (vC V 3, (60, .inr (.inl (fun _ => 0))))), (x151, .inr (9, [.ref x153, .int (-1 : Int32), .int (0 : Int32)])), (x153, .inl (vC V 3, (60, .inr (.inl (fun _ => 0))))), (x159, .inr (9, [.ref x161, .int (-1 : Int32), .int (0 : Int32)])), (x161, .inl (vC V 3, (60, .inr (.inl (fun _ => 0))))), (x167, .inr (9, [.ref x169, .int (-1 : Int32), .int (0 : Int32)])), (x169, .inl (vC V 3, (60, .inr (.inl (fun _ => 0))))), (x175, .inr (9, [.ref x177, .int (-1 : Int32), .int (0 : Int32)])), (x177, .inl (vC V 3, (60, .inr (.inl (fun _ => 0))))), (x183, .inr (9, [.ref x185, .int (-1 : Int32), .int (0 : Int32)])), (x185, .inl (vC V 3, (60, .inr (.inl (fun _ => 0))))), (h1, .inr (12, [.int (0 : Int32), .int (0 : Int32), .int (0 : Int32), .ref m10, .ref m17, .ref m24, .ref m31, .ref m38, .ref m45, .ref m52, .ref m59, .int (0 : Int32), .int (-1 : Int32), .int (0 : Int32), .int (0 : Int32), .int (0 : Int32), .ref m81, .ref m88, .ref m95, .ref m102, .ref m109, .ref m116, .ref m123, .ref m130, .int (0 : Int32), .int (0 : Int32), .int (0 : Int32), .ref m146, .int (-1 : Int32), .ref m213, .int (0 : Int32), .ref m223, .ref m230, .int (0 : Int32), .ref m240, .ref m247, .ref m254, .ref m261, .ref m268, .ref m275, .ref m282, .int (0 : Int32), .ref m292, .ref m299, .ref m306, .int (0 : Int32), .int (0 : Int32), .ref m319, .ref m326, .int (0 : Int32), .int (-1 : Int32), .int (0 : Int32), .int (0 : Int32), .int (0 : Int32), .int (0 : Int32), .int (0 : Int32), .ref m354, .ref m361, .ref m368, .ref m375, .ref m382, .ref m389, .ref m396, .ref m403, .ref m410, .ref m417, .ref m424, .ref m431, .ref m438, .int (0 : Int32), .ref m448, .ref m455, .ref m480, .ref m487, .ref m494])), (m10, .inl (vC V 0, (6, .inl (fun _ => 0)))), (m17, .inl (vC V 0, (6, .inl (fun _ => 0)))), (m24, .inl (vC V 0, (6, .inl (fun _ => 0)))), (m31, .inl (vC V 0, (6, .inl (fun _ => 0)))), (m38, .inl (vC V 0, (6, .inl (fun _ => 0)))), (m45, .inl (vC V 0, (6, .inl (fun _ => 0)))), (m52, .inl (vC V 0, (24, .inl (fun _ => 0)))), (m59, .inl (vC V 0, (6, .inl (fun _ => 0)))), (m81, .inl (vC V 0, (100, .inl (fun _ => 0)))), (m88, .inl (vC V 0, (6, .inl (fun _ => 0)))), (m95, .inl (vC V 0, (60, .inl (fun _ => 0)))), (m102, .inl (vC V 0, (60, .inl (fun _ => 0)))), (m109, .inl (vC V 0, (60, .inl (fun _ => 0)))), (m116, .inl (vC V 0, (60, .inl (fun _ => 0)))), (m123, .inl (vC V 0, (600, .inl (fun _ => 0)))), (m130, .inl (vC V 0, (101, .inl (fun _ => 0)))), (m146, .inl (vC V 0, (19, .inl (upd (upd (upd (upd (upd (upd (upd (upd (upd (upd (upd (upd (upd (upd (upd (upd (upd (upd (upd (fun _ => 0) 0 (102 : Int32)) 1 (97 : Int32)) 2 (115 : Int32)) 3 (116 : Int32)) 4 (115 : Int32)) 5 (108 : Int32)) 6 (111 : Int32)) 7 (119 : Int32)) 8 (103 : Int32)) 9 (97 : Int32)) 10 (112 : Int32)) 11 (116 : Int32)) 12 (105 : Int32)) 13 (114 : Int32)) 14 (101 : Int32)) 15 (108 : Int32)) 16 (111 : Int32)) 17 (110 : Int32)) 18 (103 : Int32))))), (m213, .inl (vC V 2, (100, .inl (fun _ => 0)))), (m223, .inl (vC V 0, (6, .inl (fun _ => 0)))), (m230, .inl (vC V 0, (6, .inl (fun _ => 0)))), (m240, .inl (vC V 0, (6, .inl (fun _ => 0)))), (m247, .inl (vC V 0, (6, .inl (fun _ => 0)))), (m254, .inl (vC V 0, (6, .inl (fun _ => 0)))), (m261, .inl (vC V 0, (6, .inl (fun _ => 0)))), (m268, .inl (vC V 0, (6, .inl (fun _ => 0)))), (m275, .inl (vC V 0, (6, .inl (fun _ => 0)))), (m282, .inl (vC V 0, (6, .inl (fun _ => 0)))), (m292, .inl (vC V 0, (6, .inl (fun _ => 0)))), (m299, .inl (vC V 0, (6, .inl (fun _ => 0)))), (m306, .inl (vC V 0, (6, .inl (fun _ => 0)))), (m319, .inl (vC V 0, (10, .inl (fun _ => 0)))), (m326, .inl (vC V 0, (8, .inl (fun _ => 0)))), (m354, .inl (vC V 0, (6, .inl (fun _ => 0)))), (m361, .inl (vC V 0, (6, .inl (fun _ => 0)))), (m368, .inl (vC V 0, (6, .inl (fun _ => 0)))), (m375, .inl (vC V 0, (6, .inl (fun _ => 0)))), (m382, .inl (vC V 0, (6, .inl (fun _ => 0)))), (m389, .inl (vC V 0, (6, .inl (fun _ => 0)))), (m396, .inl (vC V 0, (6, .inl (fun _ => 0)))), (m403, .inl (vC V 0, (24, .inl (fun _ => 0)))), (m410, .inl (vC V 0, (6, .inl (fun _ => 0)))), (m417, .inl (vC V 0, (6, .inl (fun _ => 0)))), (m424, .inl (vC V 0, (6, .inl (fun _ => 0)))), (m431, .inl (vC V 0, (10, .inl (fun _ => 0)))), (m438, .inl (vC V 0, (8, .inl (fun _ => 0)))), (m448, .inl (vC V 0, (20, .inl (fun _ => 0)))), (m455, .inl (vC V 0, (6, .inl (upd (upd (upd (upd (upd (upd (fun _ => 0) 0 (-1 : Int32)) 1 (-1 : Int32)) 2 (-1 : Int32)) 3 (-1 : Int32)) 4 (-1 : Int32)) 5 (-1 : Int32))))), (m480, .inl (vC V 0, (6, .inl (fun _ => 0)))), (m487, .inl (vC V 3, (360, .inr (.inl (fun _ => 0))))), (m494, .inl (vC V 3, (60, .inr (.inl (fun _ => 0)))))]
theorem stI_z {id : Nat} (h : id ∉ [69, 74, 127, 171, 1, 17, 33, 52, 54, 56, 58, 60, 62]) : stI id = fun _ => 0 := by
  simp only [List.mem_cons, List.not_mem_nil, or_false, not_or] at h
  obtain ⟨h1, h2, h3, h4, h5, h6, h7, h8, h9, h10, h11, h12, h13⟩ := h
  unfold stI
  rw [if_neg h1, if_neg h2, if_neg h3, if_neg h4, if_neg h5, if_neg h6, if_neg h7, if_neg h8, if_neg h9, if_neg h10, if_neg h11, if_neg h12, if_neg h13]
  rfl
theorem stc_i {V : Vx} {Q : List Nat} {a t n : Nat} (h : kd a = (t, n)) (ht : t < 3) (hf : stI a = fun _ => 0) : ct (stV V Q) st0 a = .inl (vC V t, n, .inl (fun _ => 0)) := by
  rw [ct_i h ht, ← hf]; rfl
theorem stc_l {V : Vx} {Q : List Nat} {a n : Nat} (h : kd a = (3, n)) : ct (stV V Q) st0 a = .inl (vC V 3, n, .inr (.inl (fun _ => 0))) := by
  rw [ct_l h]; rfl
noncomputable def stP_0 (V : Vx) (Q : List Nat) : List (Nat × (Nat × va_E)) := [(0, ((Q.getD 0 0), .inr (11, [.ref (Q.getD 1 0), .ref (Q.getD 17 0), .ref (Q.getD 33 0), .int (0 : Int32), .ref (Q.getD 49 0), .int (0 : Int32), .ref (Q.getD 50 0), .int (0 : Int32), .ref (Q.getD 51 0), .ref (Q.getD 64 0), .ref (Q.getD 66 0), .ref (Q.getD 67 0), .ref (Q.getD 68 0)]))), (1, ((Q.getD 1 0), .inr (1, [.ref (Q.getD 2 0), .int (0 : Int32), .ref (Q.getD 3 0), .int (0 : Int32), .ref (Q.getD 4 0), .ref (Q.getD 5 0), .ref (Q.getD 6 0), .ref (Q.getD 7 0), .ref (Q.getD 8 0), .int (0 : Int32), .ref (Q.getD 69 0), .int (-1 : Int32), .ref (Q.getD 9 0), .ref (Q.getD 11 0), .ref (Q.getD 13 0), .ref (Q.getD 15 0), .ref (Q.getD 16 0)]))), (2, ((Q.getD 2 0), .inl (vC V 4, 6, .inr (.inr (.inr (.inr (fun _ => none))))))), (3, ((Q.getD 3 0), .inl (vC V 0, (6, .inl (fun _ => 0))))), (4, ((Q.getD 4 0), .inl (vC V 0, (6, .inl (fun _ => 0))))), (5, ((Q.getD 5 0), .inl (vC V 0, (6, .inl (fun _ => 0))))), (6, ((Q.getD 6 0), .inl (vC V 0, (6, .inl (fun _ => 0))))), (7, ((Q.getD 7 0), .inl (vC V 0, (6, .inl (fun _ => 0))))), (8, ((Q.getD 8 0), .inl (vC V 0, (24, .inl (fun _ => 0))))), (9, ((Q.getD 9 0), .inr (5, [.ref (Q.getD 10 0), .int (0 : Int32)]))), (10, ((Q.getD 10 0), .inl (vC V 0, (18, .inl (fun _ => 0))))), (11, ((Q.getD 11 0), .inr (5, [.ref (Q.getD 12 0), .int (0 : Int32)]))), (12, ((Q.getD 12 0), .inl (vC V 0, (10, .inl (fun _ => 0))))), (13, ((Q.getD 13 0), .inr (5, [.ref (Q.getD 14 0), .int (0 : Int32)]))), (14, ((Q.getD 14 0), .inl (vC V 0, (8, .inl (fun _ => 0))))), (15, ((Q.getD 15 0), .inl (vC V 0, (6, .inl (fun _ => 0)))))]
set_option maxRecDepth 100000 in
set_option maxHeartbeats 4000000 in
theorem stE_0 {V : Vx} (Q : List Nat) : ∀ y ∈ stP_0 V Q, EQV y.2.2 (ct (stV V Q) st0 y.1) := by
  unfold stP_0
  refine List.forall_mem_cons.mpr ⟨?_, ?_⟩
  · show EQV _ (ct _ _ 0)
    rw [ct_o (ci := 11) kd_0, flds_2]; exact EQV_rf
  refine List.forall_mem_cons.mpr ⟨?_, ?_⟩
  · show EQV _ (ct _ _ 1)
    rw [ct_o (ci := 1) kd_1, flds_2]; exact EQV_rf
  refine List.forall_mem_cons.mpr ⟨?_, ?_⟩
  · show EQV _ (ct _ _ 2)
    rw [ct_r kd_2 (by decide) (by decide)]; exact EQV_rf
  refine List.forall_mem_cons.mpr ⟨?_, ?_⟩
  · show EQV _ (ct _ _ 3)
    rw [stc_i kd_3 (by decide) (stI_z (by decide))]; exact EQV_rf
  refine List.forall_mem_cons.mpr ⟨?_, ?_⟩
  · show EQV _ (ct _ _ 4)
    rw [stc_i kd_4 (by decide) (stI_z (by decide))]; exact EQV_rf
  refine List.forall_mem_cons.mpr ⟨?_, ?_⟩
  · show EQV _ (ct _ _ 5)
    rw [stc_i kd_5 (by decide) (stI_z (by decide))]; exact EQV_rf
  refine List.forall_mem_cons.mpr ⟨?_, ?_⟩
  · show EQV _ (ct _ _ 6)
    rw [stc_i kd_6 (by decide) (stI_z (by decide))]; exact EQV_rf
  refine List.forall_mem_cons.mpr ⟨?_, ?_⟩
  · show EQV _ (ct _ _ 7)
    rw [stc_i kd_7 (by decide) (stI_z (by decide))]; exact EQV_rf
  refine List.forall_mem_cons.mpr ⟨?_, ?_⟩
  · show EQV _ (ct _ _ 8)
    rw [stc_i kd_8 (by decide) (stI_z (by decide))]; exact EQV_rf
  refine List.forall_mem_cons.mpr ⟨?_, ?_⟩
  · show EQV _ (ct _ _ 9)
    rw [ct_o (ci := 5) kd_9, flds_2]; exact EQV_rf
  refine List.forall_mem_cons.mpr ⟨?_, ?_⟩
  · show EQV _ (ct _ _ 10)
    rw [stc_i kd_10 (by decide) (stI_z (by decide))]; exact EQV_rf
  refine List.forall_mem_cons.mpr ⟨?_, ?_⟩
  · show EQV _ (ct _ _ 11)
    rw [ct_o (ci := 5) kd_11, flds_2]; exact EQV_rf
  refine List.forall_mem_cons.mpr ⟨?_, ?_⟩
  · show EQV _ (ct _ _ 12)
    rw [stc_i kd_12 (by decide) (stI_z (by decide))]; exact EQV_rf
  refine List.forall_mem_cons.mpr ⟨?_, ?_⟩
  · show EQV _ (ct _ _ 13)
    rw [ct_o (ci := 5) kd_13, flds_2]; exact EQV_rf
  refine List.forall_mem_cons.mpr ⟨?_, ?_⟩
  · show EQV _ (ct _ _ 14)
    rw [stc_i kd_14 (by decide) (stI_z (by decide))]; exact EQV_rf
  refine List.forall_mem_cons.mpr ⟨?_, ?_⟩
  · show EQV _ (ct _ _ 15)
    rw [stc_i kd_15 (by decide) (stI_z (by decide))]; exact EQV_rf
  exact fun _ h => absurd h List.not_mem_nil
noncomputable def stP_1 (V : Vx) (Q : List Nat) : List (Nat × (Nat × va_E)) := [(16, ((Q.getD 16 0), .inl (vC V 0, (6, .inl (fun _ => 0))))), (17, ((Q.getD 17 0), .inr (1, [.ref (Q.getD 18 0), .int (0 : Int32), .ref (Q.getD 19 0), .int (0 : Int32), .ref (Q.getD 20 0), .ref (Q.getD 21 0), .ref (Q.getD 22 0), .ref (Q.getD 23 0), .ref (Q.getD 24 0), .int (0 : Int32), .ref (Q.getD 69 0), .int (-1 : Int32), .ref (Q.getD 25 0), .ref (Q.getD 27 0), .ref (Q.getD 29 0), .ref (Q.getD 31 0), .ref (Q.getD 32 0)]))), (18, ((Q.getD 18 0), .inl (vC V 4, 6, .inr (.inr (.inr (.inr (fun _ => none))))))), (19, ((Q.getD 19 0), .inl (vC V 0, (6, .inl (fun _ => 0))))), (20, ((Q.getD 20 0), .inl (vC V 0, (6, .inl (fun _ => 0))))), (21, ((Q.getD 21 0), .inl (vC V 0, (6, .inl (fun _ => 0))))), (22, ((Q.getD 22 0), .inl (vC V 0, (6, .inl (fun _ => 0))))), (23, ((Q.getD 23 0), .inl (vC V 0, (6, .inl (fun _ => 0))))), (24, ((Q.getD 24 0), .inl (vC V 0, (24, .inl (fun _ => 0))))), (25, ((Q.getD 25 0), .inr (5, [.ref (Q.getD 26 0), .int (0 : Int32)]))), (26, ((Q.getD 26 0), .inl (vC V 0, (18, .inl (fun _ => 0))))), (27, ((Q.getD 27 0), .inr (5, [.ref (Q.getD 28 0), .int (0 : Int32)]))), (28, ((Q.getD 28 0), .inl (vC V 0, (10, .inl (fun _ => 0))))), (29, ((Q.getD 29 0), .inr (5, [.ref (Q.getD 30 0), .int (0 : Int32)]))), (30, ((Q.getD 30 0), .inl (vC V 0, (8, .inl (fun _ => 0))))), (31, ((Q.getD 31 0), .inl (vC V 0, (6, .inl (fun _ => 0)))))]
set_option maxRecDepth 100000 in
set_option maxHeartbeats 4000000 in
theorem stE_1 {V : Vx} (Q : List Nat) : ∀ y ∈ stP_1 V Q, EQV y.2.2 (ct (stV V Q) st0 y.1) := by
  unfold stP_1
  refine List.forall_mem_cons.mpr ⟨?_, ?_⟩
  · show EQV _ (ct _ _ 16)
    rw [stc_i kd_16 (by decide) (stI_z (by decide))]; exact EQV_rf
  refine List.forall_mem_cons.mpr ⟨?_, ?_⟩
  · show EQV _ (ct _ _ 17)
    rw [ct_o (ci := 1) kd_17, flds_2]; exact EQV_rf
  refine List.forall_mem_cons.mpr ⟨?_, ?_⟩
  · show EQV _ (ct _ _ 18)
    rw [ct_r kd_18 (by decide) (by decide)]; exact EQV_rf
  refine List.forall_mem_cons.mpr ⟨?_, ?_⟩
  · show EQV _ (ct _ _ 19)
    rw [stc_i kd_19 (by decide) (stI_z (by decide))]; exact EQV_rf
  refine List.forall_mem_cons.mpr ⟨?_, ?_⟩
  · show EQV _ (ct _ _ 20)
    rw [stc_i kd_20 (by decide) (stI_z (by decide))]; exact EQV_rf
  refine List.forall_mem_cons.mpr ⟨?_, ?_⟩
  · show EQV _ (ct _ _ 21)
    rw [stc_i kd_21 (by decide) (stI_z (by decide))]; exact EQV_rf
  refine List.forall_mem_cons.mpr ⟨?_, ?_⟩
  · show EQV _ (ct _ _ 22)
    rw [stc_i kd_22 (by decide) (stI_z (by decide))]; exact EQV_rf
  refine List.forall_mem_cons.mpr ⟨?_, ?_⟩
  · show EQV _ (ct _ _ 23)
    rw [stc_i kd_23 (by decide) (stI_z (by decide))]; exact EQV_rf
  refine List.forall_mem_cons.mpr ⟨?_, ?_⟩
  · show EQV _ (ct _ _ 24)
    rw [stc_i kd_24 (by decide) (stI_z (by decide))]; exact EQV_rf
  refine List.forall_mem_cons.mpr ⟨?_, ?_⟩
  · show EQV _ (ct _ _ 25)
    rw [ct_o (ci := 5) kd_25, flds_2]; exact EQV_rf
  refine List.forall_mem_cons.mpr ⟨?_, ?_⟩
  · show EQV _ (ct _ _ 26)
    rw [stc_i kd_26 (by decide) (stI_z (by decide))]; exact EQV_rf
  refine List.forall_mem_cons.mpr ⟨?_, ?_⟩
  · show EQV _ (ct _ _ 27)
    rw [ct_o (ci := 5) kd_27, flds_2]; exact EQV_rf
  refine List.forall_mem_cons.mpr ⟨?_, ?_⟩
  · show EQV _ (ct _ _ 28)
    rw [stc_i kd_28 (by decide) (stI_z (by decide))]; exact EQV_rf
  refine List.forall_mem_cons.mpr ⟨?_, ?_⟩
  · show EQV _ (ct _ _ 29)
    rw [ct_o (ci := 5) kd_29, flds_2]; exact EQV_rf
  refine List.forall_mem_cons.mpr ⟨?_, ?_⟩
  · show EQV _ (ct _ _ 30)
    rw [stc_i kd_30 (by decide) (stI_z (by decide))]; exact EQV_rf
  refine List.forall_mem_cons.mpr ⟨?_, ?_⟩
  · show EQV _ (ct _ _ 31)
    rw [stc_i kd_31 (by decide) (stI_z (by decide))]; exact EQV_rf
  exact fun _ h => absurd h List.not_mem_nil
noncomputable def stP_2 (V : Vx) (Q : List Nat) : List (Nat × (Nat × va_E)) := [(32, ((Q.getD 32 0), .inl (vC V 0, (6, .inl (fun _ => 0))))), (33, ((Q.getD 33 0), .inr (1, [.ref (Q.getD 34 0), .int (0 : Int32), .ref (Q.getD 35 0), .int (0 : Int32), .ref (Q.getD 36 0), .ref (Q.getD 37 0), .ref (Q.getD 38 0), .ref (Q.getD 39 0), .ref (Q.getD 40 0), .int (0 : Int32), .ref (Q.getD 69 0), .int (-1 : Int32), .ref (Q.getD 41 0), .ref (Q.getD 43 0), .ref (Q.getD 45 0), .ref (Q.getD 47 0), .ref (Q.getD 48 0)]))), (34, ((Q.getD 34 0), .inl (vC V 4, 6, .inr (.inr (.inr (.inr (fun _ => none))))))), (35, ((Q.getD 35 0), .inl (vC V 0, (6, .inl (fun _ => 0))))), (36, ((Q.getD 36 0), .inl (vC V 0, (6, .inl (fun _ => 0))))), (37, ((Q.getD 37 0), .inl (vC V 0, (6, .inl (fun _ => 0))))), (38, ((Q.getD 38 0), .inl (vC V 0, (6, .inl (fun _ => 0))))), (39, ((Q.getD 39 0), .inl (vC V 0, (6, .inl (fun _ => 0))))), (40, ((Q.getD 40 0), .inl (vC V 0, (24, .inl (fun _ => 0))))), (41, ((Q.getD 41 0), .inr (5, [.ref (Q.getD 42 0), .int (0 : Int32)]))), (42, ((Q.getD 42 0), .inl (vC V 0, (18, .inl (fun _ => 0))))), (43, ((Q.getD 43 0), .inr (5, [.ref (Q.getD 44 0), .int (0 : Int32)]))), (44, ((Q.getD 44 0), .inl (vC V 0, (10, .inl (fun _ => 0))))), (45, ((Q.getD 45 0), .inr (5, [.ref (Q.getD 46 0), .int (0 : Int32)]))), (46, ((Q.getD 46 0), .inl (vC V 0, (8, .inl (fun _ => 0))))), (47, ((Q.getD 47 0), .inl (vC V 0, (6, .inl (fun _ => 0)))))]
set_option maxRecDepth 100000 in
set_option maxHeartbeats 4000000 in
theorem stE_2 {V : Vx} (Q : List Nat) : ∀ y ∈ stP_2 V Q, EQV y.2.2 (ct (stV V Q) st0 y.1) := by
  unfold stP_2
  refine List.forall_mem_cons.mpr ⟨?_, ?_⟩
  · show EQV _ (ct _ _ 32)
    rw [stc_i kd_32 (by decide) (stI_z (by decide))]; exact EQV_rf
  refine List.forall_mem_cons.mpr ⟨?_, ?_⟩
  · show EQV _ (ct _ _ 33)
    rw [ct_o (ci := 1) kd_33, flds_2]; exact EQV_rf
  refine List.forall_mem_cons.mpr ⟨?_, ?_⟩
  · show EQV _ (ct _ _ 34)
    rw [ct_r kd_34 (by decide) (by decide)]; exact EQV_rf
  refine List.forall_mem_cons.mpr ⟨?_, ?_⟩
  · show EQV _ (ct _ _ 35)
    rw [stc_i kd_35 (by decide) (stI_z (by decide))]; exact EQV_rf
  refine List.forall_mem_cons.mpr ⟨?_, ?_⟩
  · show EQV _ (ct _ _ 36)
    rw [stc_i kd_36 (by decide) (stI_z (by decide))]; exact EQV_rf
  refine List.forall_mem_cons.mpr ⟨?_, ?_⟩
  · show EQV _ (ct _ _ 37)
    rw [stc_i kd_37 (by decide) (stI_z (by decide))]; exact EQV_rf
  refine List.forall_mem_cons.mpr ⟨?_, ?_⟩
  · show EQV _ (ct _ _ 38)
    rw [stc_i kd_38 (by decide) (stI_z (by decide))]; exact EQV_rf
  refine List.forall_mem_cons.mpr ⟨?_, ?_⟩
  · show EQV _ (ct _ _ 39)
    rw [stc_i kd_39 (by decide) (stI_z (by decide))]; exact EQV_rf
  refine List.forall_mem_cons.mpr ⟨?_, ?_⟩
  · show EQV _ (ct _ _ 40)
    rw [stc_i kd_40 (by decide) (stI_z (by decide))]; exact EQV_rf
  refine List.forall_mem_cons.mpr ⟨?_, ?_⟩
  · show EQV _ (ct _ _ 41)
    rw [ct_o (ci := 5) kd_41, flds_2]; exact EQV_rf
  refine List.forall_mem_cons.mpr ⟨?_, ?_⟩
  · show EQV _ (ct _ _ 42)
    rw [stc_i kd_42 (by decide) (stI_z (by decide))]; exact EQV_rf
  refine List.forall_mem_cons.mpr ⟨?_, ?_⟩
  · show EQV _ (ct _ _ 43)
    rw [ct_o (ci := 5) kd_43, flds_2]; exact EQV_rf
  refine List.forall_mem_cons.mpr ⟨?_, ?_⟩
  · show EQV _ (ct _ _ 44)
    rw [stc_i kd_44 (by decide) (stI_z (by decide))]; exact EQV_rf
  refine List.forall_mem_cons.mpr ⟨?_, ?_⟩
  · show EQV _ (ct _ _ 45)
    rw [ct_o (ci := 5) kd_45, flds_2]; exact EQV_rf
  refine List.forall_mem_cons.mpr ⟨?_, ?_⟩
  · show EQV _ (ct _ _ 46)
    rw [stc_i kd_46 (by decide) (stI_z (by decide))]; exact EQV_rf
  refine List.forall_mem_cons.mpr ⟨?_, ?_⟩
  · show EQV _ (ct _ _ 47)
    rw [stc_i kd_47 (by decide) (stI_z (by decide))]; exact EQV_rf
  exact fun _ h => absurd h List.not_mem_nil
noncomputable def stP_3 (V : Vx) (Q : List Nat) : List (Nat × (Nat × va_E)) := [(48, ((Q.getD 48 0), .inl (vC V 0, (6, .inl (fun _ => 0))))), (49, ((Q.getD 49 0), .inl (vC V 5, 6, .inr (.inr (.inr (.inr (fun _ => none))))))), (50, ((Q.getD 50 0), .inl (vC V 1, (100, .inl (fun _ => 0))))), (51, ((Q.getD 51 0), .inl (vC V 6, 6, .inr (.inr (.inr (.inr (va_up (va_up (va_up (va_up (va_up (va_up (fun _ => none) 0 (some (Q.getD 52 0))) 1 (some (Q.getD 54 0))) 2 (some (Q.getD 56 0))) 3 (some (Q.getD 58 0))) 4 (some (Q.getD 60 0))) 5 (some (Q.getD 62 0))))))))), (64, ((Q.getD 64 0), .inr (5, [.ref (Q.getD 65 0), .int (0 : Int32)]))), (65, ((Q.getD 65 0), .inl (vC V 0, (20, .inl (fun _ => 0))))), (66, ((Q.getD 66 0), .inl (vC V 0, (5, .inl (fun _ => 0))))), (67, ((Q.getD 67 0), .inl (vC V 0, (5, .inl (fun _ => 0))))), (68, ((Q.getD 68 0), .inl (vC V 0, (6, .inl (fun _ => 0))))), (69, ((Q.getD 69 0), .inr (2, [.int (2 : Int32), .int (1 : Int32), .int (60 : Int32), .ref (Q.getD 70 0), .int (0 : Int32), .ref (Q.getD 71 0), .ref (Q.getD 72 0), .ref (Q.getD 73 0), .int (0 : Int32), .null, .int (0 : Int32), .int (0 : Int32)]))), (70, ((Q.getD 70 0), .inl (vC V 0, (100, .inl (fun _ => 0))))), (71, ((Q.getD 71 0), .inl (vC V 0, (10, .inl (fun _ => 0))))), (72, ((Q.getD 72 0), .inl (vC V 0, (10, .inl (fun _ => 0))))), (73, ((Q.getD 73 0), .inl (vC V 0, (10, .inl (fun _ => 0))))), (52, ((Q.getD 52 0), .inr (9, [.ref (Q.getD 53 0), .int (-1 : Int32), .int (0 : Int32)]))), (53, ((Q.getD 53 0), .inl (vC V 3, (60, .inr (.inl (fun _ => 0))))))]
set_option maxRecDepth 100000 in
set_option maxHeartbeats 4000000 in
theorem stE_3 {V : Vx} (Q : List Nat) : ∀ y ∈ stP_3 V Q, EQV y.2.2 (ct (stV V Q) st0 y.1) := by
  unfold stP_3
  refine List.forall_mem_cons.mpr ⟨?_, ?_⟩
  · show EQV _ (ct _ _ 48)
    rw [stc_i kd_48 (by decide) (stI_z (by decide))]; exact EQV_rf
  refine List.forall_mem_cons.mpr ⟨?_, ?_⟩
  · show EQV _ (ct _ _ 49)
    rw [ct_r kd_49 (by decide) (by decide)]; exact EQV_rf
  refine List.forall_mem_cons.mpr ⟨?_, ?_⟩
  · show EQV _ (ct _ _ 50)
    rw [stc_i kd_50 (by decide) (stI_z (by decide))]; exact EQV_rf
  refine List.forall_mem_cons.mpr ⟨?_, ?_⟩
  · show EQV _ (ct _ _ 51)
    rw [ct_t kd_51]; exact EQV_refs (fun k hk => by rcases k with _ | _ | _ | _ | _ | _ | k <;> first | rfl | omega)
  refine List.forall_mem_cons.mpr ⟨?_, ?_⟩
  · show EQV _ (ct _ _ 64)
    rw [ct_o (ci := 5) kd_64, flds_2]; exact EQV_rf
  refine List.forall_mem_cons.mpr ⟨?_, ?_⟩
  · show EQV _ (ct _ _ 65)
    rw [stc_i kd_65 (by decide) (stI_z (by decide))]; exact EQV_rf
  refine List.forall_mem_cons.mpr ⟨?_, ?_⟩
  · show EQV _ (ct _ _ 66)
    rw [stc_i kd_66 (by decide) (stI_z (by decide))]; exact EQV_rf
  refine List.forall_mem_cons.mpr ⟨?_, ?_⟩
  · show EQV _ (ct _ _ 67)
    rw [stc_i kd_67 (by decide) (stI_z (by decide))]; exact EQV_rf
  refine List.forall_mem_cons.mpr ⟨?_, ?_⟩
  · show EQV _ (ct _ _ 68)
    rw [stc_i kd_68 (by decide) (stI_z (by decide))]; exact EQV_rf
  refine List.forall_mem_cons.mpr ⟨?_, ?_⟩
  · show EQV _ (ct _ _ 69)
    rw [ct_o (ci := 2) kd_69, flds_2]; exact EQV_rf
  refine List.forall_mem_cons.mpr ⟨?_, ?_⟩
  · show EQV _ (ct _ _ 70)
    rw [stc_i kd_70 (by decide) (stI_z (by decide))]; exact EQV_rf
  refine List.forall_mem_cons.mpr ⟨?_, ?_⟩
  · show EQV _ (ct _ _ 71)
    rw [stc_i kd_71 (by decide) (stI_z (by decide))]; exact EQV_rf
  refine List.forall_mem_cons.mpr ⟨?_, ?_⟩
  · show EQV _ (ct _ _ 72)
    rw [stc_i kd_72 (by decide) (stI_z (by decide))]; exact EQV_rf
  refine List.forall_mem_cons.mpr ⟨?_, ?_⟩
  · show EQV _ (ct _ _ 73)
    rw [stc_i kd_73 (by decide) (stI_z (by decide))]; exact EQV_rf
  refine List.forall_mem_cons.mpr ⟨?_, ?_⟩
  · show EQV _ (ct _ _ 52)
    rw [ct_o (ci := 9) kd_52, flds_2]; exact EQV_rf
  refine List.forall_mem_cons.mpr ⟨?_, ?_⟩
  · show EQV _ (ct _ _ 53)
    rw [stc_l kd_53]; exact EQV_rf
  exact fun _ h => absurd h List.not_mem_nil
noncomputable def stP_4 (V : Vx) (Q : List Nat) : List (Nat × (Nat × va_E)) := [(54, ((Q.getD 54 0), .inr (9, [.ref (Q.getD 55 0), .int (-1 : Int32), .int (0 : Int32)]))), (55, ((Q.getD 55 0), .inl (vC V 3, (60, .inr (.inl (fun _ => 0)))))), (56, ((Q.getD 56 0), .inr (9, [.ref (Q.getD 57 0), .int (-1 : Int32), .int (0 : Int32)]))), (57, ((Q.getD 57 0), .inl (vC V 3, (60, .inr (.inl (fun _ => 0)))))), (58, ((Q.getD 58 0), .inr (9, [.ref (Q.getD 59 0), .int (-1 : Int32), .int (0 : Int32)]))), (59, ((Q.getD 59 0), .inl (vC V 3, (60, .inr (.inl (fun _ => 0)))))), (60, ((Q.getD 60 0), .inr (9, [.ref (Q.getD 61 0), .int (-1 : Int32), .int (0 : Int32)]))), (61, ((Q.getD 61 0), .inl (vC V 3, (60, .inr (.inl (fun _ => 0)))))), (62, ((Q.getD 62 0), .inr (9, [.ref (Q.getD 63 0), .int (-1 : Int32), .int (0 : Int32)]))), (63, ((Q.getD 63 0), .inl (vC V 3, (60, .inr (.inl (fun _ => 0)))))), (74, ((Q.getD 74 0), .inr (12, [.int (0 : Int32), .int (0 : Int32), .int (0 : Int32), .ref (Q.getD 103 0), .ref (Q.getD 104 0), .ref (Q.getD 105 0), .ref (Q.getD 106 0), .ref (Q.getD 107 0), .ref (Q.getD 108 0), .ref (Q.getD 109 0), .ref (Q.getD 110 0), .int (0 : Int32), .int (-1 : Int32), .int (0 : Int32), .int (0 : Int32), .int (0 : Int32), .ref (Q.getD 116 0), .ref (Q.getD 117 0), .ref (Q.getD 118 0), .ref (Q.getD 119 0), .ref (Q.getD 120 0), .ref (Q.getD 121 0), .ref (Q.getD 122 0), .ref (Q.getD 123 0), .int (0 : Int32), .int (0 : Int32), .int (0 : Int32), .ref (Q.getD 127 0), .int (-1 : Int32), .ref (Q.getD 129 0), .int (0 : Int32), .ref (Q.getD 131 0), .ref (Q.getD 132 0), .int (0 : Int32), .ref (Q.getD 134 0), .ref (Q.getD 135 0), .ref (Q.getD 136 0), .ref (Q.getD 137 0), .ref (Q.getD 138 0), .ref (Q.getD 139 0), .ref (Q.getD 140 0), .int (0 : Int32), .ref (Q.getD 142 0), .ref (Q.getD 143 0), .ref (Q.getD 144 0), .int (0 : Int32), .int (0 : Int32), .ref (Q.getD 147 0), .ref (Q.getD 148 0), .int (0 : Int32), .int (-1 : Int32), .int (0 : Int32), .int (0 : Int32), .int (0 : Int32), .int (0 : Int32), .int (0 : Int32), .ref (Q.getD 156 0), .ref (Q.getD 157 0), .ref (Q.getD 158 0), .ref (Q.getD 159 0), .ref (Q.getD 160 0), .ref (Q.getD 161 0), .ref (Q.getD 162 0), .ref (Q.getD 163 0), .ref (Q.getD 164 0), .ref (Q.getD 165 0), .ref (Q.getD 166 0), .ref (Q.getD 167 0), .ref (Q.getD 168 0), .int (0 : Int32), .ref (Q.getD 170 0), .ref (Q.getD 171 0), .ref (Q.getD 172 0), .ref (Q.getD 173 0), .ref (Q.getD 174 0)]))), (103, ((Q.getD 103 0), .inl (vC V 0, (6, .inl (fun _ => 0))))), (104, ((Q.getD 104 0), .inl (vC V 0, (6, .inl (fun _ => 0))))), (105, ((Q.getD 105 0), .inl (vC V 0, (6, .inl (fun _ => 0))))), (106, ((Q.getD 106 0), .inl (vC V 0, (6, .inl (fun _ => 0))))), (107, ((Q.getD 107 0), .inl (vC V 0, (6, .inl (fun _ => 0)))))]
set_option maxRecDepth 100000 in
set_option maxHeartbeats 4000000 in
theorem stE_4 {V : Vx} (Q : List Nat) : ∀ y ∈ stP_4 V Q, EQV y.2.2 (ct (stV V Q) st0 y.1) := by
  unfold stP_4
  refine List.forall_mem_cons.mpr ⟨?_, ?_⟩
  · show EQV _ (ct _ _ 54)
    rw [ct_o (ci := 9) kd_54, flds_2]; exact EQV_rf
  refine List.forall_mem_cons.mpr ⟨?_, ?_⟩
  · show EQV _ (ct _ _ 55)
    rw [stc_l kd_55]; exact EQV_rf
  refine List.forall_mem_cons.mpr ⟨?_, ?_⟩
  · show EQV _ (ct _ _ 56)
    rw [ct_o (ci := 9) kd_56, flds_2]; exact EQV_rf
  refine List.forall_mem_cons.mpr ⟨?_, ?_⟩
  · show EQV _ (ct _ _ 57)
    rw [stc_l kd_57]; exact EQV_rf
  refine List.forall_mem_cons.mpr ⟨?_, ?_⟩
  · show EQV _ (ct _ _ 58)
    rw [ct_o (ci := 9) kd_58, flds_2]; exact EQV_rf
  refine List.forall_mem_cons.mpr ⟨?_, ?_⟩
  · show EQV _ (ct _ _ 59)
    rw [stc_l kd_59]; exact EQV_rf
  refine List.forall_mem_cons.mpr ⟨?_, ?_⟩
  · show EQV _ (ct _ _ 60)
    rw [ct_o (ci := 9) kd_60, flds_2]; exact EQV_rf
  refine List.forall_mem_cons.mpr ⟨?_, ?_⟩
  · show EQV _ (ct _ _ 61)
    rw [stc_l kd_61]; exact EQV_rf
  refine List.forall_mem_cons.mpr ⟨?_, ?_⟩
  · show EQV _ (ct _ _ 62)
    rw [ct_o (ci := 9) kd_62, flds_2]; exact EQV_rf
  refine List.forall_mem_cons.mpr ⟨?_, ?_⟩
  · show EQV _ (ct _ _ 63)
    rw [stc_l kd_63]; exact EQV_rf
  refine List.forall_mem_cons.mpr ⟨?_, ?_⟩
  · show EQV _ (ct _ _ 74)
    rw [ct_o (ci := 12) kd_74]
    show EQV _ (.inr (12, flds (va _) 74 stM stRn 12))
    rw [flds74]; exact EQV_rf
  refine List.forall_mem_cons.mpr ⟨?_, ?_⟩
  · show EQV _ (ct _ _ 103)
    rw [stc_i kd_103 (by decide) (stI_z (by decide))]; exact EQV_rf
  refine List.forall_mem_cons.mpr ⟨?_, ?_⟩
  · show EQV _ (ct _ _ 104)
    rw [stc_i kd_104 (by decide) (stI_z (by decide))]; exact EQV_rf
  refine List.forall_mem_cons.mpr ⟨?_, ?_⟩
  · show EQV _ (ct _ _ 105)
    rw [stc_i kd_105 (by decide) (stI_z (by decide))]; exact EQV_rf
  refine List.forall_mem_cons.mpr ⟨?_, ?_⟩
  · show EQV _ (ct _ _ 106)
    rw [stc_i kd_106 (by decide) (stI_z (by decide))]; exact EQV_rf
  refine List.forall_mem_cons.mpr ⟨?_, ?_⟩
  · show EQV _ (ct _ _ 107)
    rw [stc_i kd_107 (by decide) (stI_z (by decide))]; exact EQV_rf
  exact fun _ h => absurd h List.not_mem_nil
noncomputable def stP_5 (V : Vx) (Q : List Nat) : List (Nat × (Nat × va_E)) := [(108, ((Q.getD 108 0), .inl (vC V 0, (6, .inl (fun _ => 0))))), (109, ((Q.getD 109 0), .inl (vC V 0, (24, .inl (fun _ => 0))))), (110, ((Q.getD 110 0), .inl (vC V 0, (6, .inl (fun _ => 0))))), (116, ((Q.getD 116 0), .inl (vC V 0, (100, .inl (fun _ => 0))))), (117, ((Q.getD 117 0), .inl (vC V 0, (6, .inl (fun _ => 0))))), (118, ((Q.getD 118 0), .inl (vC V 0, (60, .inl (fun _ => 0))))), (119, ((Q.getD 119 0), .inl (vC V 0, (60, .inl (fun _ => 0))))), (120, ((Q.getD 120 0), .inl (vC V 0, (60, .inl (fun _ => 0))))), (121, ((Q.getD 121 0), .inl (vC V 0, (60, .inl (fun _ => 0))))), (122, ((Q.getD 122 0), .inl (vC V 0, (600, .inl (fun _ => 0))))), (123, ((Q.getD 123 0), .inl (vC V 0, (101, .inl (fun _ => 0))))), (127, ((Q.getD 127 0), .inl (vC V 0, (19, .inl (upd (upd (upd (upd (upd (upd (upd (upd (upd (upd (upd (upd (upd (upd (upd (upd (upd (upd (upd (fun _ => 0) 0 (102 : Int32)) 1 (97 : Int32)) 2 (115 : Int32)) 3 (116 : Int32)) 4 (115 : Int32)) 5 (108 : Int32)) 6 (111 : Int32)) 7 (119 : Int32)) 8 (103 : Int32)) 9 (97 : Int32)) 10 (112 : Int32)) 11 (116 : Int32)) 12 (105 : Int32)) 13 (114 : Int32)) 14 (101 : Int32)) 15 (108 : Int32)) 16 (111 : Int32)) 17 (110 : Int32)) 18 (103 : Int32)))))), (129, ((Q.getD 129 0), .inl (vC V 2, (100, .inl (fun _ => 0))))), (131, ((Q.getD 131 0), .inl (vC V 0, (6, .inl (fun _ => 0))))), (132, ((Q.getD 132 0), .inl (vC V 0, (6, .inl (fun _ => 0))))), (134, ((Q.getD 134 0), .inl (vC V 0, (6, .inl (fun _ => 0)))))]
set_option maxRecDepth 100000 in
set_option maxHeartbeats 4000000 in
theorem stE_5 {V : Vx} (Q : List Nat) : ∀ y ∈ stP_5 V Q, EQV y.2.2 (ct (stV V Q) st0 y.1) := by
  unfold stP_5
  refine List.forall_mem_cons.mpr ⟨?_, ?_⟩
  · show EQV _ (ct _ _ 108)
    rw [stc_i kd_108 (by decide) (stI_z (by decide))]; exact EQV_rf
  refine List.forall_mem_cons.mpr ⟨?_, ?_⟩
  · show EQV _ (ct _ _ 109)
    rw [stc_i kd_109 (by decide) (stI_z (by decide))]; exact EQV_rf
  refine List.forall_mem_cons.mpr ⟨?_, ?_⟩
  · show EQV _ (ct _ _ 110)
    rw [stc_i kd_110 (by decide) (stI_z (by decide))]; exact EQV_rf
  refine List.forall_mem_cons.mpr ⟨?_, ?_⟩
  · show EQV _ (ct _ _ 116)
    rw [stc_i kd_116 (by decide) (stI_z (by decide))]; exact EQV_rf
  refine List.forall_mem_cons.mpr ⟨?_, ?_⟩
  · show EQV _ (ct _ _ 117)
    rw [stc_i kd_117 (by decide) (stI_z (by decide))]; exact EQV_rf
  refine List.forall_mem_cons.mpr ⟨?_, ?_⟩
  · show EQV _ (ct _ _ 118)
    rw [stc_i kd_118 (by decide) (stI_z (by decide))]; exact EQV_rf
  refine List.forall_mem_cons.mpr ⟨?_, ?_⟩
  · show EQV _ (ct _ _ 119)
    rw [stc_i kd_119 (by decide) (stI_z (by decide))]; exact EQV_rf
  refine List.forall_mem_cons.mpr ⟨?_, ?_⟩
  · show EQV _ (ct _ _ 120)
    rw [stc_i kd_120 (by decide) (stI_z (by decide))]; exact EQV_rf
  refine List.forall_mem_cons.mpr ⟨?_, ?_⟩
  · show EQV _ (ct _ _ 121)
    rw [stc_i kd_121 (by decide) (stI_z (by decide))]; exact EQV_rf
  refine List.forall_mem_cons.mpr ⟨?_, ?_⟩
  · show EQV _ (ct _ _ 122)
    rw [stc_i kd_122 (by decide) (stI_z (by decide))]; exact EQV_rf
  refine List.forall_mem_cons.mpr ⟨?_, ?_⟩
  · show EQV _ (ct _ _ 123)
    rw [stc_i kd_123 (by decide) (stI_z (by decide))]; exact EQV_rf
  refine List.forall_mem_cons.mpr ⟨?_, ?_⟩
  · show EQV _ (ct _ _ 127)
    rw [ct_i kd_127 (by decide)]; exact EQV_rf
  refine List.forall_mem_cons.mpr ⟨?_, ?_⟩
  · show EQV _ (ct _ _ 129)
    rw [stc_i kd_129 (by decide) (stI_z (by decide))]; exact EQV_rf
  refine List.forall_mem_cons.mpr ⟨?_, ?_⟩
  · show EQV _ (ct _ _ 131)
    rw [stc_i kd_131 (by decide) (stI_z (by decide))]; exact EQV_rf
  refine List.forall_mem_cons.mpr ⟨?_, ?_⟩
  · show EQV _ (ct _ _ 132)
    rw [stc_i kd_132 (by decide) (stI_z (by decide))]; exact EQV_rf
  refine List.forall_mem_cons.mpr ⟨?_, ?_⟩
  · show EQV _ (ct _ _ 134)
    rw [stc_i kd_134 (by decide) (stI_z (by decide))]; exact EQV_rf
  exact fun _ h => absurd h List.not_mem_nil
noncomputable def stP_6 (V : Vx) (Q : List Nat) : List (Nat × (Nat × va_E)) := [(135, ((Q.getD 135 0), .inl (vC V 0, (6, .inl (fun _ => 0))))), (136, ((Q.getD 136 0), .inl (vC V 0, (6, .inl (fun _ => 0))))), (137, ((Q.getD 137 0), .inl (vC V 0, (6, .inl (fun _ => 0))))), (138, ((Q.getD 138 0), .inl (vC V 0, (6, .inl (fun _ => 0))))), (139, ((Q.getD 139 0), .inl (vC V 0, (6, .inl (fun _ => 0))))), (140, ((Q.getD 140 0), .inl (vC V 0, (6, .inl (fun _ => 0))))), (142, ((Q.getD 142 0), .inl (vC V 0, (6, .inl (fun _ => 0))))), (143, ((Q.getD 143 0), .inl (vC V 0, (6, .inl (fun _ => 0))))), (144, ((Q.getD 144 0), .inl (vC V 0, (6, .inl (fun _ => 0))))), (147, ((Q.getD 147 0), .inl (vC V 0, (10, .inl (fun _ => 0))))), (148, ((Q.getD 148 0), .inl (vC V 0, (8, .inl (fun _ => 0))))), (156, ((Q.getD 156 0), .inl (vC V 0, (6, .inl (fun _ => 0))))), (157, ((Q.getD 157 0), .inl (vC V 0, (6, .inl (fun _ => 0))))), (158, ((Q.getD 158 0), .inl (vC V 0, (6, .inl (fun _ => 0))))), (159, ((Q.getD 159 0), .inl (vC V 0, (6, .inl (fun _ => 0))))), (160, ((Q.getD 160 0), .inl (vC V 0, (6, .inl (fun _ => 0)))))]
set_option maxRecDepth 100000 in
set_option maxHeartbeats 4000000 in
theorem stE_6 {V : Vx} (Q : List Nat) : ∀ y ∈ stP_6 V Q, EQV y.2.2 (ct (stV V Q) st0 y.1) := by
  unfold stP_6
  refine List.forall_mem_cons.mpr ⟨?_, ?_⟩
  · show EQV _ (ct _ _ 135)
    rw [stc_i kd_135 (by decide) (stI_z (by decide))]; exact EQV_rf
  refine List.forall_mem_cons.mpr ⟨?_, ?_⟩
  · show EQV _ (ct _ _ 136)
    rw [stc_i kd_136 (by decide) (stI_z (by decide))]; exact EQV_rf
  refine List.forall_mem_cons.mpr ⟨?_, ?_⟩
  · show EQV _ (ct _ _ 137)
    rw [stc_i kd_137 (by decide) (stI_z (by decide))]; exact EQV_rf
  refine List.forall_mem_cons.mpr ⟨?_, ?_⟩
  · show EQV _ (ct _ _ 138)
    rw [stc_i kd_138 (by decide) (stI_z (by decide))]; exact EQV_rf
  refine List.forall_mem_cons.mpr ⟨?_, ?_⟩
  · show EQV _ (ct _ _ 139)
    rw [stc_i kd_139 (by decide) (stI_z (by decide))]; exact EQV_rf
  refine List.forall_mem_cons.mpr ⟨?_, ?_⟩
  · show EQV _ (ct _ _ 140)
    rw [stc_i kd_140 (by decide) (stI_z (by decide))]; exact EQV_rf
  refine List.forall_mem_cons.mpr ⟨?_, ?_⟩
  · show EQV _ (ct _ _ 142)
    rw [stc_i kd_142 (by decide) (stI_z (by decide))]; exact EQV_rf
  refine List.forall_mem_cons.mpr ⟨?_, ?_⟩
  · show EQV _ (ct _ _ 143)
    rw [stc_i kd_143 (by decide) (stI_z (by decide))]; exact EQV_rf
  refine List.forall_mem_cons.mpr ⟨?_, ?_⟩
  · show EQV _ (ct _ _ 144)
    rw [stc_i kd_144 (by decide) (stI_z (by decide))]; exact EQV_rf
  refine List.forall_mem_cons.mpr ⟨?_, ?_⟩
  · show EQV _ (ct _ _ 147)
    rw [stc_i kd_147 (by decide) (stI_z (by decide))]; exact EQV_rf
  refine List.forall_mem_cons.mpr ⟨?_, ?_⟩
  · show EQV _ (ct _ _ 148)
    rw [stc_i kd_148 (by decide) (stI_z (by decide))]; exact EQV_rf
  refine List.forall_mem_cons.mpr ⟨?_, ?_⟩
  · show EQV _ (ct _ _ 156)
    rw [stc_i kd_156 (by decide) (stI_z (by decide))]; exact EQV_rf
  refine List.forall_mem_cons.mpr ⟨?_, ?_⟩
  · show EQV _ (ct _ _ 157)
    rw [stc_i kd_157 (by decide) (stI_z (by decide))]; exact EQV_rf
  refine List.forall_mem_cons.mpr ⟨?_, ?_⟩
  · show EQV _ (ct _ _ 158)
    rw [stc_i kd_158 (by decide) (stI_z (by decide))]; exact EQV_rf
  refine List.forall_mem_cons.mpr ⟨?_, ?_⟩
  · show EQV _ (ct _ _ 159)
    rw [stc_i kd_159 (by decide) (stI_z (by decide))]; exact EQV_rf
  refine List.forall_mem_cons.mpr ⟨?_, ?_⟩
  · show EQV _ (ct _ _ 160)
    rw [stc_i kd_160 (by decide) (stI_z (by decide))]; exact EQV_rf
  exact fun _ h => absurd h List.not_mem_nil
noncomputable def stP_7 (V : Vx) (Q : List Nat) : List (Nat × (Nat × va_E)) := [(161, ((Q.getD 161 0), .inl (vC V 0, (6, .inl (fun _ => 0))))), (162, ((Q.getD 162 0), .inl (vC V 0, (6, .inl (fun _ => 0))))), (163, ((Q.getD 163 0), .inl (vC V 0, (24, .inl (fun _ => 0))))), (164, ((Q.getD 164 0), .inl (vC V 0, (6, .inl (fun _ => 0))))), (165, ((Q.getD 165 0), .inl (vC V 0, (6, .inl (fun _ => 0))))), (166, ((Q.getD 166 0), .inl (vC V 0, (6, .inl (fun _ => 0))))), (167, ((Q.getD 167 0), .inl (vC V 0, (10, .inl (fun _ => 0))))), (168, ((Q.getD 168 0), .inl (vC V 0, (8, .inl (fun _ => 0))))), (170, ((Q.getD 170 0), .inl (vC V 0, (20, .inl (fun _ => 0))))), (171, ((Q.getD 171 0), .inl (vC V 0, (6, .inl (upd (upd (upd (upd (upd (upd (fun _ => 0) 0 (-1 : Int32)) 1 (-1 : Int32)) 2 (-1 : Int32)) 3 (-1 : Int32)) 4 (-1 : Int32)) 5 (-1 : Int32)))))), (172, ((Q.getD 172 0), .inl (vC V 0, (6, .inl (fun _ => 0))))), (173, ((Q.getD 173 0), .inl (vC V 3, (360, .inr (.inl (fun _ => 0)))))), (174, ((Q.getD 174 0), .inl (vC V 3, (60, .inr (.inl (fun _ => 0))))))]
set_option maxRecDepth 100000 in
set_option maxHeartbeats 4000000 in
theorem stE_7 {V : Vx} (Q : List Nat) : ∀ y ∈ stP_7 V Q, EQV y.2.2 (ct (stV V Q) st0 y.1) := by
  unfold stP_7
  refine List.forall_mem_cons.mpr ⟨?_, ?_⟩
  · show EQV _ (ct _ _ 161)
    rw [stc_i kd_161 (by decide) (stI_z (by decide))]; exact EQV_rf
  refine List.forall_mem_cons.mpr ⟨?_, ?_⟩
  · show EQV _ (ct _ _ 162)
    rw [stc_i kd_162 (by decide) (stI_z (by decide))]; exact EQV_rf
  refine List.forall_mem_cons.mpr ⟨?_, ?_⟩
  · show EQV _ (ct _ _ 163)
    rw [stc_i kd_163 (by decide) (stI_z (by decide))]; exact EQV_rf
  refine List.forall_mem_cons.mpr ⟨?_, ?_⟩
  · show EQV _ (ct _ _ 164)
    rw [stc_i kd_164 (by decide) (stI_z (by decide))]; exact EQV_rf
  refine List.forall_mem_cons.mpr ⟨?_, ?_⟩
  · show EQV _ (ct _ _ 165)
    rw [stc_i kd_165 (by decide) (stI_z (by decide))]; exact EQV_rf
  refine List.forall_mem_cons.mpr ⟨?_, ?_⟩
  · show EQV _ (ct _ _ 166)
    rw [stc_i kd_166 (by decide) (stI_z (by decide))]; exact EQV_rf
  refine List.forall_mem_cons.mpr ⟨?_, ?_⟩
  · show EQV _ (ct _ _ 167)
    rw [stc_i kd_167 (by decide) (stI_z (by decide))]; exact EQV_rf
  refine List.forall_mem_cons.mpr ⟨?_, ?_⟩
  · show EQV _ (ct _ _ 168)
    rw [stc_i kd_168 (by decide) (stI_z (by decide))]; exact EQV_rf
  refine List.forall_mem_cons.mpr ⟨?_, ?_⟩
  · show EQV _ (ct _ _ 170)
    rw [stc_i kd_170 (by decide) (stI_z (by decide))]; exact EQV_rf
  refine List.forall_mem_cons.mpr ⟨?_, ?_⟩
  · show EQV _ (ct _ _ 171)
    rw [ct_i kd_171 (by decide)]; exact EQV_rf
  refine List.forall_mem_cons.mpr ⟨?_, ?_⟩
  · show EQV _ (ct _ _ 172)
    rw [stc_i kd_172 (by decide) (stI_z (by decide))]; exact EQV_rf
  refine List.forall_mem_cons.mpr ⟨?_, ?_⟩
  · show EQV _ (ct _ _ 173)
    rw [stc_l kd_173]; exact EQV_rf
  refine List.forall_mem_cons.mpr ⟨?_, ?_⟩
  · show EQV _ (ct _ _ 174)
    rw [stc_l kd_174]; exact EQV_rf
  exact fun _ h => absurd h List.not_mem_nil
set_option maxRecDepth 100000 in
set_option maxHeartbeats 4000000 in
theorem st_E {V : Vx} (h0 x1 x3 x4 x5 x6 x7 x8 x9 x10 x11 x12 x13 x14 x15 x16 x17 x23 x25 x26 x27 x28 x29 x30 x31 x32 x33 x34 x35 x36 x37 x38 x39 x45 x47 x48 x49 x50 x51 x52 x53 x54 x55 x56 x57 x58 x59 x60 x61 x70 x80 x90 x97 x99 x105 x112 x119 x126 x128 x129 x130 x131 x143 x145 x151 x153 x159 x161 x167 x169 x175 x177 x183 x185 h1 m10 m17 m24 m31 m38 m45 m52 m59 m81 m88 m95 m102 m109 m116 m123 m130 m146 m213 m223 m230 m240 m247 m254 m261 m268 m275 m282 m292 m299 m306 m319 m326 m354 m361 m368 m375 m382 m389 m396 m403 m410 m417 m424 m431 m438 m448 m455 m480 m487 m494 : Nat) : ∀ y ∈ stO.zip (stC0 V h0 x1 x3 x4 x5 x6 x7 x8 x9 x10 x11 x12 x13 x14 x15 x16 x17 x23 x25 x26 x27 x28 x29 x30 x31 x32 x33 x34 x35 x36 x37 x38 x39 x45 x47 x48 x49 x50 x51 x52 x53 x54 x55 x56 x57 x58 x59 x60 x61 x70 x80 x90 x97 x99 x105 x112 x119 x126 x128 x129 x130 x131 x143 x145 x151 x153 x159 x161 x167 x169 x175 x177 x183 x185 h1 m10 m17 m24 m31 m38 m45 m52 m59 m81 m88 m95 m102 m109 m116 m123 m130 m146 m213 m223 m230 m240 m247 m254 m261 m268 m275 m282 m292 m299 m306 m319 m326 m354 m361 m368 m375 m382 m389 m396 m403 m410 m417 m424 m431 m438 m448 m455 m480 m487 m494), EQV y.2.2 (ct (stV V (stQ h0 x1 x3 x4 x5 x6 x7 x8 x9 x10 x11 x12 x13 x14 x15 x16 x17 x23 x25 x26 x27 x28 x29 x30 x31 x32 x33 x34 x35 x36 x37 x38 x39 x45 x47 x48 x49 x50 x51 x52 x53 x54 x55 x56 x57 x58 x59 x60 x61 x70 x80 x90 x97 x99 x105 x112 x119 x126 x128 x129 x130 x131 x143 x145 x151 x153 x159 x161 x167 x169 x175 x177 x183 x185 h1 m10 m17 m24 m31 m38 m45 m52 m59 m81 m88 m95 m102 m109 m116 m123 m130 m146 m213 m223 m230 m240 m247 m254 m261 m268 m275 m282 m292 m299 m306 m319 m326 m354 m361 m368 m375 m382 m389 m396 m403 m410 m417 m424 m431 m438 m448 m455 m480 m487 m494)) st0 y.1) := by
  have h : stO.zip (stC0 V h0 x1 x3 x4 x5 x6 x7 x8 x9 x10 x11 x12 x13 x14 x15 x16 x17 x23 x25 x26 x27 x28 x29 x30 x31 x32 x33 x34 x35 x36 x37 x38 x39 x45 x47 x48 x49 x50 x51 x52 x53 x54 x55 x56 x57 x58 x59 x60 x61 x70 x80 x90 x97 x99 x105 x112 x119 x126 x128 x129 x130 x131 x143 x145 x151 x153 x159 x161 x167 x169 x175 x177 x183 x185 h1 m10 m17 m24 m31 m38 m45 m52 m59 m81 m88 m95 m102 m109 m116 m123 m130 m146 m213 m223 m230 m240 m247 m254 m261 m268 m275 m282 m292 m299 m306 m319 m326 m354 m361 m368 m375 m382 m389 m396 m403 m410 m417 m424 m431 m438 m448 m455 m480 m487 m494) = stP_0 V (stQ h0 x1 x3 x4 x5 x6 x7 x8 x9 x10 x11 x12 x13 x14 x15 x16 x17 x23 x25 x26 x27 x28 x29 x30 x31 x32 x33 x34 x35 x36 x37 x38 x39 x45 x47 x48 x49 x50 x51 x52 x53 x54 x55 x56 x57 x58 x59 x60 x61 x70 x80 x90 x97 x99 x105 x112 x119 x126 x128 x129 x130 x131 x143 x145 x151 x153 x159 x161 x167 x169 x175 x177 x183 x185 h1 m10 m17 m24 m31 m38 m45 m52 m59 m81 m88 m95 m102 m109 m116 m123 m130 m146 m213 m223 m230 m240 m247 m254 m261 m268 m275 m282 m292 m299 m306 m319 m326 m354 m361 m368 m375 m382 m389 m396 m403 m410 m417 m424 m431 m438 m448 m455 m480 m487 m494) ++ (stP_1 V (stQ h0 x1 x3 x4 x5 x6 x7 x8 x9 x10 x11 x12 x13 x14 x15 x16 x17 x23 x25 x26 x27 x28 x29 x30 x31 x32 x33 x34 x35 x36 x37 x38 x39 x45 x47 x48 x49 x50 x51 x52 x53 x54 x55 x56 x57 x58 x59 x60 x61 x70 x80 x90 x97 x99 x105 x112 x119 x126 x128 x129 x130 x131 x143 x145 x151 x153 x159 x161 x167 x169 x175 x177 x183 x185 h1 m10 m17 m24 m31 m38 m45 m52 m59 m81 m88 m95 m102 m109 m116 m123 m130 m146 m213 m223 m230 m240 m247 m254 m261 m268 m275 m282 m292 m299 m306 m319 m326 m354 m361 m368 m375 m382 m389 m396 m403 m410 m417 m424 m431 m438 m448 m455 m480 m487 m494) ++ (stP_2 V (stQ h0 x1 x3 x4 x5 x6 x7 x8 x9 x10 x11 x12 x13 x14 x15 x16 x17 x23 x25 x26 x27 x28 x29 x30 x31 x32 x33 x34 x35 x36 x37 x38 x39 x45 x47 x48 x49 x50 x51 x52 x53 x54 x55 x56 x57 x58 x59 x60 x61 x70 x80 x90 x97 x99 x105 x112 x119 x126 x128 x129 x130 x131 x143 x145 x151 x153 x159 x161 x167 x169 x175 x177 x183 x185 h1 m10 m17 m24 m31 m38 m45 m52 m59 m81 m88 m95 m102 m109 m116 m123 m130 m146 m213 m223 m230 m240 m247 m254 m261 m268 m275 m282 m292 m299 m306 m319 m326 m354 m361 m368 m375 m382 m389 m396 m403 m410 m417 m424 m431 m438 m448 m455 m480 m487 m494) ++ (stP_3 V (stQ h0 x1 x3 x4 x5 x6 x7 x8 x9 x10 x11 x12 x13 x14 x15 x16 x17 x23 x25 x26 x27 x28 x29 x30 x31 x32 x33 x34 x35 x36 x37 x38 x39 x45 x47 x48 x49 x50 x51 x52 x53 x54 x55 x56 x57 x58 x59 x60 x61 x70 x80 x90 x97 x99 x105 x112 x119 x126 x128 x129 x130 x131 x143 x145 x151 x153 x159 x161 x167 x169 x175 x177 x183 x185 h1 m10 m17 m24 m31 m38 m45 m52 m59 m81 m88 m95 m102 m109 m116 m123 m130 m146 m213 m223 m230 m240 m247 m254 m261 m268 m275 m282 m292 m299 m306 m319 m326 m354 m361 m368 m375 m382 m389 m396 m403 m410 m417 m424 m431 m438 m448 m455 m480 m487 m494) ++ (stP_4 V (stQ h0 x1 x3 x4 x5 x6 x7 x8 x9 x10 x11 x12 x13 x14 x15 x16 x17 x23 x25 x26 x27 x28 x29 x30 x31 x32 x33 x34 x35 x36 x37 x38 x39 x45 x47 x48 x49 x50 x51 x52 x53 x54 x55 x56 x57 x58 x59 x60 x61 x70 x80 x90 x97 x99 x105 x112 x119 x126 x128 x129 x130 x131 x143 x145 x151 x153 x159 x161 x167 x169 x175 x177 x183 x185 h1 m10 m17 m24 m31 m38 m45 m52 m59 m81 m88 m95 m102 m109 m116 m123 m130 m146 m213 m223 m230 m240 m247 m254 m261 m268 m275 m282 m292 m299 m306 m319 m326 m354 m361 m368 m375 m382 m389 m396 m403 m410 m417 m424 m431 m438 m448 m455 m480 m487 m494) ++ (stP_5 V (stQ h0 x1 x3 x4 x5 x6 x7 x8 x9 x10 x11 x12 x13 x14 x15 x16 x17 x23 x25 x26 x27 x28 x29 x30 x31 x32 x33 x34 x35 x36 x37 x38 x39 x45 x47 x48 x49 x50 x51 x52 x53 x54 x55 x56 x57 x58 x59 x60 x61 x70 x80 x90 x97 x99 x105 x112 x119 x126 x128 x129 x130 x131 x143 x145 x151 x153 x159 x161 x167 x169 x175 x177 x183 x185 h1 m10 m17 m24 m31 m38 m45 m52 m59 m81 m88 m95 m102 m109 m116 m123 m130 m146 m213 m223 m230 m240 m247 m254 m261 m268 m275 m282 m292 m299 m306 m319 m326 m354 m361 m368 m375 m382 m389 m396 m403 m410 m417 m424 m431 m438 m448 m455 m480 m487 m494) ++ (stP_6 V (stQ h0 x1 x3 x4 x5 x6 x7 x8 x9 x10 x11 x12 x13 x14 x15 x16 x17 x23 x25 x26 x27 x28 x29 x30 x31 x32 x33 x34 x35 x36 x37 x38 x39 x45 x47 x48 x49 x50 x51 x52 x53 x54 x55 x56 x57 x58 x59 x60 x61 x70 x80 x90 x97 x99 x105 x112 x119 x126 x128 x129 x130 x131 x143 x145 x151 x153 x159 x161 x167 x169 x175 x177 x183 x185 h1 m10 m17 m24 m31 m38 m45 m52 m59 m81 m88 m95 m102 m109 m116 m123 m130 m146 m213 m223 m230 m240 m247 m254 m261 m268 m275 m282 m292 m299 m306 m319 m326 m354 m361 m368 m375 m382 m389 m396 m403 m410 m417 m424 m431 m438 m448 m455 m480 m487 m494) ++ (stP_7 V (stQ h0 x1 x3 x4 x5 x6 x7 x8 x9 x10 x11 x12 x13 x14 x15 x16 x17 x23 x25 x26 x27 x28 x29 x30 x31 x32 x33 x34 x35 x36 x37 x38 x39 x45 x47 x48 x49 x50 x51 x52 x53 x54 x55 x56 x57 x58 x59 x60 x61 x70 x80 x90 x97 x99 x105 x112 x119 x126 x128 x129 x130 x131 x143 x145 x151 x153 x159 x161 x167 x169 x175 x177 x183 x185 h1 m10 m17 m24 m31 m38 m45 m52 m59 m81 m88 m95 m102 m109 m116 m123 m130 m146 m213 m223 m230 m240 m247 m254 m261 m268 m275 m282 m292 m299 m306 m319 m326 m354 m361 m368 m375 m382 m389 m396 m403 m410 m417 m424 m431 m438 m448 m455 m480 m487 m494)))))))) := rfl
  rw [h]
  exact List.forall_mem_append.mpr ⟨stE_0 _, List.forall_mem_append.mpr ⟨stE_1 _, List.forall_mem_append.mpr ⟨stE_2 _, List.forall_mem_append.mpr ⟨stE_3 _, List.forall_mem_append.mpr ⟨stE_4 _, List.forall_mem_append.mpr ⟨stE_5 _, List.forall_mem_append.mpr ⟨stE_6 _, stE_7 _⟩⟩⟩⟩⟩⟩⟩
set_option maxRecDepth 100000 in
set_option maxHeartbeats 4000000 in
theorem st_L {V : Vx} (h0 x1 x3 x4 x5 x6 x7 x8 x9 x10 x11 x12 x13 x14 x15 x16 x17 x23 x25 x26 x27 x28 x29 x30 x31 x32 x33 x34 x35 x36 x37 x38 x39 x45 x47 x48 x49 x50 x51 x52 x53 x54 x55 x56 x57 x58 x59 x60 x61 x70 x80 x90 x97 x99 x105 x112 x119 x126 x128 x129 x130 x131 x143 x145 x151 x153 x159 x161 x167 x169 x175 x177 x183 x185 h1 m10 m17 m24 m31 m38 m45 m52 m59 m81 m88 m95 m102 m109 m116 m123 m130 m146 m213 m223 m230 m240 m247 m254 m261 m268 m275 m282 m292 m299 m306 m319 m326 m354 m361 m368 m375 m382 m389 m396 m403 m410 m417 m424 m431 m438 m448 m455 m480 m487 m494 : Nat) : (stC0 V h0 x1 x3 x4 x5 x6 x7 x8 x9 x10 x11 x12 x13 x14 x15 x16 x17 x23 x25 x26 x27 x28 x29 x30 x31 x32 x33 x34 x35 x36 x37 x38 x39 x45 x47 x48 x49 x50 x51 x52 x53 x54 x55 x56 x57 x58 x59 x60 x61 x70 x80 x90 x97 x99 x105 x112 x119 x126 x128 x129 x130 x131 x143 x145 x151 x153 x159 x161 x167 x169 x175 x177 x183 x185 h1 m10 m17 m24 m31 m38 m45 m52 m59 m81 m88 m95 m102 m109 m116 m123 m130 m146 m213 m223 m230 m240 m247 m254 m261 m268 m275 m282 m292 m299 m306 m319 m326 m354 m361 m368 m375 m382 m389 m396 m403 m410 m417 m424 m431 m438 m448 m455 m480 m487 m494).map (fun x => x.1) = stO.map (fun id => va (stV V (stQ h0 x1 x3 x4 x5 x6 x7 x8 x9 x10 x11 x12 x13 x14 x15 x16 x17 x23 x25 x26 x27 x28 x29 x30 x31 x32 x33 x34 x35 x36 x37 x38 x39 x45 x47 x48 x49 x50 x51 x52 x53 x54 x55 x56 x57 x58 x59 x60 x61 x70 x80 x90 x97 x99 x105 x112 x119 x126 x128 x129 x130 x131 x143 x145 x151 x153 x159 x161 x167 x169 x175 x177 x183 x185 h1 m10 m17 m24 m31 m38 m45 m52 m59 m81 m88 m95 m102 m109 m116 m123 m130 m146 m213 m223 m230 m240 m247 m254 m261 m268 m275 m282 m292 m299 m306 m319 m326 m354 m361 m368 m375 m382 m389 m396 m403 m410 m417 m424 m431 m438 m448 m455 m480 m487 m494)) id) := rfl
