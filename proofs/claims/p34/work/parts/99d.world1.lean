/-! each cell of it -/
noncomputable def fl2 (g : Nat → Nat → Value) : Nat → List Nat → List Value
  | _, [] => []
  | n, c :: cs => g n c :: fl2 g (n + 1) cs
theorem fl2_eq (g : Nat → Nat → Value) : ∀ (l : List Nat) (n : Nat), l.mapIdx (fun k c => g (k + n) c) = fl2 g n l := by
  intro l
  induction l with
  | nil => intro n; rfl
  | cons c cs ih =>
    intro n
    rw [List.mapIdx_cons]
    show g (0 + n) c :: _ = g n c :: fl2 g (n + 1) cs
    rw [Nat.zero_add, ← ih (n + 1)]
    congr 1
    congr 1
    funext i d
    show g (i + 1 + n) d = g (i + (n + 1)) d
    rw [Nat.add_assoc, Nat.add_comm 1 n]
theorem flds_2 {ad : Nat → Nat} {id ci : Nat} {f : Nat → Int32} {r : Nat → Option Nat} : flds ad id f r ci = fl2 (fun k c => fv ad id f r k c) 0 (tplT.getD ci []) := by
  rw [← fl2_eq]
  rfl
set_option maxRecDepth 100000 in
set_option maxHeartbeats 4000000 in
theorem flds74 (ad : Nat → Nat) : flds ad 74 stM stRn 12 = [.int (0 : Int32), .int (0 : Int32), .int (0 : Int32), .ref (ad 103), .ref (ad 104), .ref (ad 105), .ref (ad 106), .ref (ad 107), .ref (ad 108), .ref (ad 109), .ref (ad 110), .int (0 : Int32), .int (-1 : Int32), .int (0 : Int32), .int (0 : Int32), .int (0 : Int32), .ref (ad 116), .ref (ad 117), .ref (ad 118), .ref (ad 119), .ref (ad 120), .ref (ad 121), .ref (ad 122), .ref (ad 123), .int (0 : Int32), .int (0 : Int32), .int (0 : Int32), .ref (ad 127), .int (-1 : Int32), .ref (ad 129), .int (0 : Int32), .ref (ad 131), .ref (ad 132), .int (0 : Int32), .ref (ad 134), .ref (ad 135), .ref (ad 136), .ref (ad 137), .ref (ad 138), .ref (ad 139), .ref (ad 140), .int (0 : Int32), .ref (ad 142), .ref (ad 143), .ref (ad 144), .int (0 : Int32), .int (0 : Int32), .ref (ad 147), .ref (ad 148), .int (0 : Int32), .int (-1 : Int32), .int (0 : Int32), .int (0 : Int32), .int (0 : Int32), .int (0 : Int32), .int (0 : Int32), .ref (ad 156), .ref (ad 157), .ref (ad 158), .ref (ad 159), .ref (ad 160), .ref (ad 161), .ref (ad 162), .ref (ad 163), .ref (ad 164), .ref (ad 165), .ref (ad 166), .ref (ad 167), .ref (ad 168), .int (0 : Int32), .ref (ad 170), .ref (ad 171), .ref (ad 172), .ref (ad 173), .ref (ad 174)] := by
  rw [flds_2]
  rfl
noncomputable def stQ (h0 x1 x3 x4 x5 x6 x7 x8 x9 x10 x11 x12 x13 x14 x15 x16 x17 x23 x25 x26 x27 x28 x29 x30 x31 x32 x33 x34 x35 x36 x37 x38 x39 x45 x47 x48 x49 x50 x51 x52 x53 x54 x55 x56 x57 x58 x59 x60 x61 x70 x80 x90 x97 x99 x105 x112 x119 x126 x128 x129 x130 x131 x143 x145 x151 x153 x159 x161 x167 x169 x175 x177 x183 x185 h1 m10 m17 m24 m31 m38 m45 m52 m59 m81 m88 m95 m102 m109 m116 m123 m130 m146 m213 m223 m230 m240 m247 m254 m261 m268 m275 m282 m292 m299 m306 m319 m326 m354 m361 m368 m375 m382 m389 m396 m403 m410 m417 m424 m431 m438 m448 m455 m480 m487 m494 : Nat) : List Nat := [h0, x1, x3, x4, x5, x6, x7, x8, x9, x10, x11, x12, x13, x14, x15, x16, x17, x23, x25, x26, x27, x28, x29, x30, x31, x32, x33, x34, x35, x36, x37, x38, x39, x45, x47, x48, x49, x50, x51, x52, x53, x54, x55, x56, x57, x58, x59, x60, x61, x70, x80, x90, x143, x145, x151, x153, x159, x161, x167, x169, x175, x177, x183, x185, x97, x99, x105, x112, x119, x126, x128, x129, x130, x131, h1, 0, 0, 0, 0, 0, 0, 0, 0, 0, 0, 0, 0, 0, 0, 0, 0, 0, 0, 0, 0, 0, 0, 0, 0, 0, 0, 0, 0, m10, m17, m24, m31, m38, m45, m52, m59, 0, 0, 0, 0, 0, m81, m88, m95, m102, m109, m116, m123, m130, 0, 0, 0, m146, 0, m213, 0, m223, m230, 0, m240, m247, m254, m261, m268, m275, m282, 0, m292, m299, m306, 0, 0, m319, m326, 0, 0, 0, 0, 0, 0, 0, m354, m361, m368, m375, m382, m389, m396, m403, m410, m417, m424, m431, m438, 0, m448, m455, m480, m487, m494]
noncomputable def stC0 (V : Vx) (h0 x1 x3 x4 x5 x6 x7 x8 x9 x10 x11 x12 x13 x14 x15 x16 x17 x23 x25 x26 x27 x28 x29 x30 x31 x32 x33 x34 x35 x36 x37 x38 x39 x45 x47 x48 x49 x50 x51 x52 x53 x54 x55 x56 x57 x58 x59 x60 x61 x70 x80 x90 x97 x99 x105 x112 x119 x126 x128 x129 x130 x131 x143 x145 x151 x153 x159 x161 x167 x169 x175 x177 x183 x185 h1 m10 m17 m24 m31 m38 m45 m52 m59 m81 m88 m95 m102 m109 m116 m123 m130 m146 m213 m223 m230 m240 m247 m254 m261 m268 m275 m282 m292 m299 m306 m319 m326 m354 m361 m368 m375 m382 m389 m396 m403 m410 m417 m424 m431 m438 m448 m455 m480 m487 m494 : Nat) : List (Nat × va_E) := [(h0, .inr (11, [.ref x1, .ref x23, .ref x45, .int (0 : Int32), .ref x70, .int (0 : Int32), .ref x80, .int (0 : Int32), .ref x90, .ref x97, .ref x105, .ref x112, .ref x119])), (x1, .inr (1, [.ref x3, .int (0 : Int32), .ref x4, .int (0 : Int32), .ref x5, .ref x6, .ref x7, .ref x8, .ref x9, .int (0 : Int32), .ref x126, .int (-1 : Int32), .ref x10, .ref x12, .ref x14, .ref x16, .ref x17])), (x3, .inl (vC V 4, 6, .inr (.inr (.inr (.inr (fun _ => none)))))), (x4, .inl (vC V 0, (6, .inl (fun _ => 0)))), (x5, .inl (vC V 0, (6, .inl (fun _ => 0)))), (x6, .inl (vC V 0, (6, .inl (fun _ => 0)))), (x7, .inl (vC V 0, (6, .inl (fun _ => 0)))), (x8, .inl (vC V 0, (6, .inl (fun _ => 0)))), (x9, .inl (vC V 0, (24, .inl (fun _ => 0)))), (x10, .inr (5, [.ref x11, .int (0 : Int32)])), (x11, .inl (vC V 0, (18, .inl (fun _ => 0)))), (x12, .inr (5, [.ref x13, .int (0 : Int32)])), (x13, .inl (vC V 0, (10, .inl (fun _ => 0)))), (x14, .inr (5, [.ref x15, .int (0 : Int32)])), (x15, .inl (vC V 0, (8, .inl (fun _ => 0)))), (x16, .inl (vC V 0, (6, .inl (fun _ => 0)))), (x17, .inl (vC V 0, (6, .inl (fun _ => 0)))), (x23, .inr (1, [.ref x25, .int (0 : Int32), .ref x26, .int (0 : Int32), .ref x27, .ref x28, .ref x29, .ref x30, .ref x31, .int (0 : Int32), .ref x126, .int (-1 : Int32), .ref x32, .ref x34, .ref x36, .ref x38, .ref x39])), (x25, .inl (vC V 4, 6, .inr (.inr (.inr (.inr (fun _ => none)))))), (x26, .inl (vC V 0, (6, .inl (fun _ => 0)))), (x27, .inl (vC V 0, (6, .inl (fun _ => 0)))), (x28, .inl (vC V 0, (6, .inl (fun _ => 0)))), (x29, .inl (vC V 0, (6, .inl (fun _ => 0)))), (x30, .inl (vC V 0, (6, .inl (fun _ => 0)))), (x31, .inl (vC V 0, (24, .inl (fun _ => 0)))), (x32, .inr (5, [.ref x33, .int (0 : Int32)])), (x33, .inl (vC V 0, (18, .inl (fun _ => 0)))), (x34, .inr (5, [.ref x35, .int (0 : Int32)])), (x35, .inl (vC V 0, (10, .inl (fun _ => 0)))), (x36, .inr (5, [.ref x37, .int (0 : Int32)])), (x37, .inl (vC V 0, (8, .inl (fun _ => 0)))), (x38, .inl (vC V 0, (6, .inl (fun _ => 0)))), (x39, .inl (vC V 0, (6, .inl (fun _ => 0)))), (x45, .inr (1, [.ref x47, .int (0 : Int32), .ref x48, .int (0 : Int32), .ref x49, .ref x50, .ref x51, .ref x52, .ref x53, .int (0 : Int32), .ref x126, .int (-1 : Int32), .ref x54, .ref x56, .ref x58, .ref x60, .ref x61])), (x47, .inl (vC V 4, 6, .inr (.inr (.inr (.inr (fun _ => none)))))), (x48, .inl (vC V 0, (6, .inl (fun _ => 0)))), (x49, .inl (vC V 0, (6, .inl (fun _ => 0)))), (x50, .inl (vC V 0, (6, .inl (fun _ => 0)))), (x51, .inl (vC V 0, (6, .inl (fun _ => 0)))), (x52, .inl (vC V 0, (6, .inl (fun _ => 0)))), (x53, .inl (vC V 0, (24, .inl (fun _ => 0)))), (x54, .inr (5, [.ref x55, .int (0 : Int32)])), (x55, .inl (vC V 0, (18, .inl (fun _ => 0)))), (x56, .inr (5, [.ref x57, .int (0 : Int32)])), (x57, .inl (vC V 0, (10, .inl (fun _ => 0)))), (x58, .inr (5, [.ref x59, .int (0 : Int32)])), (x59, .inl (vC V 0, (8, .inl (fun _ => 0)))), (x60, .inl (vC V 0, (6, .inl (fun _ => 0)))), (x61, .inl (vC V 0, (6, .inl (fun _ => 0)))), (x70, .inl (vC V 5, 6, .inr (.inr (.inr (.inr (fun _ => none)))))), (x80, .inl (vC V 1, (100, .inl (fun _ => 0)))), (x90, .inl (vC V 6, 6, .inr (.inr (.inr (.inr (va_up (va_up (va_up (va_up (va_up (va_up (fun _ => none) 0 (some x143)) 1 (some x151)) 2 (some x159)) 3 (some x167)) 4 (some x175)) 5 (some x183))))))), (x97, .inr (5, [.ref x99, .int (0 : Int32)])), (x99, .inl (vC V 0, (20, .inl (fun _ => 0)))), (x105, .inl (vC V 0, (5, .inl (fun _ => 0)))), (x112, .inl (vC V 0, (5, .inl (fun _ => 0)))), (x119, .inl (vC V 0, (6, .inl (fun _ => 0)))), (x126, .inr (2, [.int (2 : Int32), .int (1 : Int32), .int (60 : Int32), .ref x128, .int (0 : Int32), .ref x129, .ref x130, .ref x131, .int (0 : Int32), .null, .int (0 : Int32), .int (0 : Int32)])), (x128, .inl (vC V 0, (100, .inl (fun _ => 0)))), (x129, .inl (vC V 0, (10, .inl (fun _ => 0)))), (x130, .inl (vC V 0, (10, .inl (fun _ => 0)))), (x131, .inl (vC V 0, (10, .inl (fun _ => 0)))), (x143, .inr (9, [.ref x145, .int (-1 : Int32), .int (0 : Int32)])), (x145, .inl (vC V 3, (60, .inr (.inl (fun _ => 0))))), (x151, .inr (9, [.ref x153, .int (-1 : Int32), .int (0 : Int32)])), (x153, .inl (vC V 3, (60, .inr (.inl (fun _ => 0))))), (x159, .inr (9, [.ref x161, .int (-1 : Int32), .int (0 : Int32)])), (x161, .inl (vC V 3, (60, .inr (.inl (fun _ => 0))))), (x167, .inr (9, [.ref x169, .int (-1 : Int32), .int (0 : Int32)])), (x169, .inl (vC V 3, (60, .inr (.inl (fun _ => 0))))), (x175, .inr (9, [.ref x177, .int (-1 : Int32), .int (0 : Int32)])), (x177, .inl (vC V 3, (60, .inr (.inl (fun _ => 0))))), (x183, .inr (9, [.ref x185, .int (-1 : Int32), .int (0 : Int32)])), (x185, .inl (vC V 3, (60, .inr (.inl (fun _ => 0))))), (h1, .inr (12, [.int (0 : Int32), .int (0 : Int32), .int (0 : Int32), .ref m10, .ref m17, .ref m24, .ref m31, .ref m38, .ref m45, .ref m52, .ref m59, .int (0 : Int32), .int (-1 : Int32), .int (0 : Int32), .int (0 : Int32), .int (0 : Int32), .ref m81, .ref m88, .ref m95, .ref m102, .ref m109, .ref m116, .ref m123, .ref m130, .int (0 : Int32), .int (0 : Int32), .int (0 : Int32), .ref m146, .int (-1 : Int32), .ref m213, .int (0 : Int32), .ref m223, .ref m230, .int (0 : Int32), .ref m240, .ref m247, .ref m254, .ref m261, .ref m268, .ref m275, .ref m282, .int (0 : Int32), .ref m292, .ref m299, .ref m306, .int (0 : Int32), .int (0 : Int32), .ref m319, .ref m326, .int (0 : Int32), .int (-1 : Int32), .int (0 : Int32), .int (0 : Int32), .int (0 : Int32), .int (0 : Int32), .int (0 : Int32), .ref m354, .ref m361, .ref m368, .ref m375, .ref m382, .ref m389, .ref m396, .ref m403, .ref m410, .ref m417, .ref m424, .ref m431, .ref m438, .int (0 : Int32), .ref m448, .ref m455, .ref m480, .ref m487, .ref m494])), (m10, .inl (vC V 0, (6, .inl (fun _ => 0)))), (m17, .inl (vC V 0, (6, .inl (fun _ => 0)))), (m24, .inl (vC V 0, (6, .inl (fun _ => 0)))), (m31, .inl (vC V 0, (6, .inl (fun _ => 0)))), (m38, .inl (vC V 0, (6, .inl (fun _ => 0)))), (m45, .inl (vC V 0, (6, .inl (fun _ => 0)))), (m52, .inl (vC V 0, (24, .inl (fun _ => 0)))), (m59, .inl (vC V 0, (6, .inl (fun _ => 0)))), (m81, .inl (vC V 0, (100, .inl (fun _ => 0)))), (m88, .inl (vC V 0, (6, .inl (fun _ => 0)))), (m95, .inl (vC V 0, (60, .inl (fun _ => 0)))), (m102, .inl (vC V 0, (60, .inl (fun _ => 0)))), (m109, .inl (vC V 0, (60, .inl (fun _ => 0)))), (m116, .inl (vC V 0, (60, .inl (fun _ => 0)))), (m123, .inl (vC V 0, (600, .inl (fun _ => 0)))), (m130, .inl (vC V 0, (101, .inl (fun _ => 0)))), (m146, .inl (vC V 0, (19, .inl (upd (upd (upd (upd (upd (upd (upd (upd (upd (upd (upd (upd (upd (upd (upd (upd (upd (upd (upd (fun _ => 0) 0 (102 : Int32)) 1 (97 : Int32)) 2 (115 : Int32)) 3 (116 : Int32)) 4 (115 : Int32)) 5 (108 : Int32)) 6 (111 : Int32)) 7 (119 : Int32)) 8 (103 : Int32)) 9 (97 : Int32)) 10 (112 : Int32)) 11 (116 : Int32)) 12 (105 : Int32)) 13 (114 : Int32)) 14 (101 : Int32)) 15 (108 : Int32)) 16 (111 : Int32)) 17 (110 : Int32)) 18 (103 : Int32))))), (m213, .inl (vC V 2, (100, .inl (fun _ => 0)))), (m223, .inl (vC V 0, (6, .inl (fun _ => 0)))), (m230, .inl (vC V 0, (6, .inl (fun _ => 0)))), (m240, .inl (vC V 0, (6, .inl (fun _ => 0)))), (m247, .inl (vC V 0, (6, .inl (fun _ => 0)))), (m254, .inl (vC V 0, (6, .inl (fun _ => 0)))), (m261, .inl (vC V 0, (6, .inl (fun _ => 0)))), (m268, .inl (vC V 0, (6, .inl (fun _ => 0)))), (m275, .inl (vC V 0, (6, .inl (fun _ => 0)))), (m282, .inl (vC V 0, (6, .inl (fun _ => 0)))), (m292, .inl (vC V 0, (6, .inl (fun _ => 0)))), (m299, .inl (vC V 0, (6, .inl (fun _ => 0)))), (m306, .inl (vC V 0, (6, .inl (fun _ => 0)))), (m319, .inl (vC V 0, (10, .inl (fun _ => 0)))), (m326, .inl (vC V 0, (8, .inl (fun _ => 0)))), (m354, .inl (vC V 0, (6, .inl (fun _ => 0)))), (m361, .inl (vC V 0, (6, .inl (fun _ => 0)))), (m368, .inl (vC V 0, (6, .inl (fun _ => 0)))), (m375, .inl (vC V 0, (6, .inl (fun _ => 0)))), (m382, .inl (vC V 0, (6, .inl (fun _ => 0)))), (m389, .inl (vC V 0, (6, .inl (fun _ => 0)))), (m396, .inl (vC V 0, (6, .inl (fun _ => 0)))), (m403, .inl (vC V 0, (24, .inl (fun _ => 0)))), (m410, .inl (vC V 0, (6, .inl (fun _ => 0)))), (m417, .inl (vC V 0, (6, .inl (fun _ => 0)))), (m424, .inl (vC V 0, (6, .inl (fun _ => 0)))), (m431, .inl (vC V 0, (10, .inl (fun _ => 0)))), (m438, .inl (vC V 0, (8, .inl (fun _ => 0)))), (m448, .inl (vC V 0, (20, .inl (fun _ => 0)))), (m455, .inl (vC V 0, (6, .inl (upd (upd (upd (upd (upd (upd (fun _ => 0) 0 (-1 : Int32)) 1 (-1 : Int32)) 2 (-1 : Int32)) 3 (-1 : Int32)) 4 (-1 : Int32)) 5 (-1 : Int32))))), (m480, .inl (vC V 0, (6, .inl (fun _ => 0)))), (m487, .inl (vC V 3, (360, .inr (.inl (fun _ => 0))))), (m494, .inl (vC V 3, (60, .inr (.inl (fun _ => 0)))))]
set_option maxRecDepth 100000 in
set_option maxHeartbeats 4000000 in
theorem stE_0 {V : Vx} (h0 x1 x3 x4 x5 x6 x7 x8 x9 x10 x11 x12 x13 x14 x15 x16 x17 x23 x25 x26 x27 x28 x29 x30 x31 x32 x33 x34 x35 x36 x37 x38 x39 x45 x47 x48 x49 x50 x51 x52 x53 x54 x55 x56 x57 x58 x59 x60 x61 x70 x80 x90 x97 x99 x105 x112 x119 x126 x128 x129 x130 x131 x143 x145 x151 x153 x159 x161 x167 x169 x175 x177 x183 x185 h1 m10 m17 m24 m31 m38 m45 m52 m59 m81 m88 m95 m102 m109 m116 m123 m130 m146 m213 m223 m230 m240 m247 m254 m261 m268 m275 m282 m292 m299 m306 m319 m326 m354 m361 m368 m375 m382 m389 m396 m403 m410 m417 m424 m431 m438 m448 m455 m480 m487 m494 : Nat) : ∀ y ∈ ([(0, (h0, .inr (11, [.ref x1, .ref x23, .ref x45, .int (0 : Int32), .ref x70, .int (0 : Int32), .ref x80, .int (0 : Int32), .ref x90, .ref x97, .ref x105, .ref x112, .ref x119]))), (1, (x1, .inr (1, [.ref x3, .int (0 : Int32), .ref x4, .int (0 : Int32), .ref x5, .ref x6, .ref x7, .ref x8, .ref x9, .int (0 : Int32), .ref x126, .int (-1 : Int32), .ref x10, .ref x12, .ref x14, .ref x16, .ref x17]))), (2, (x3, .inl (vC V 4, 6, .inr (.inr (.inr (.inr (fun _ => none))))))), (3, (x4, .inl (vC V 0, (6, .inl (fun _ => 0))))), (4, (x5, .inl (vC V 0, (6, .inl (fun _ => 0))))), (5, (x6, .inl (vC V 0, (6, .inl (fun _ => 0))))), (6, (x7, .inl (vC V 0, (6, .inl (fun _ => 0))))), (7, (x8, .inl (vC V 0, (6, .inl (fun _ => 0))))), (8, (x9, .inl (vC V 0, (24, .inl (fun _ => 0))))), (9, (x10, .inr (5, [.ref x11, .int (0 : Int32)]))), (10, (x11, .inl (vC V 0, (18, .inl (fun _ => 0))))), (11, (x12, .inr (5, [.ref x13, .int (0 : Int32)]))), (12, (x13, .inl (vC V 0, (10, .inl (fun _ => 0))))), (13, (x14, .inr (5, [.ref x15, .int (0 : Int32)]))), (14, (x15, .inl (vC V 0, (8, .inl (fun _ => 0))))), (15, (x16, .inl (vC V 0, (6, .inl (fun _ => 0)))))] : List (Nat × (Nat × va_E))), EQV y.2.2 (ct (stV V (stQ h0 x1 x3 x4 x5 x6 x7 x8 x9 x10 x11 x12 x13 x14 x15 x16 x17 x23 x25 x26 x27 x28 x29 x30 x31 x32 x33 x34 x35 x36 x37 x38 x39 x45 x47 x48 x49 x50 x51 x52 x53 x54 x55 x56 x57 x58 x59 x60 x61 x70 x80 x90 x97 x99 x105 x112 x119 x126 x128 x129 x130 x131 x143 x145 x151 x153 x159 x161 x167 x169 x175 x177 x183 x185 h1 m10 m17 m24 m31 m38 m45 m52 m59 m81 m88 m95 m102 m109 m116 m123 m130 m146 m213 m223 m230 m240 m247 m254 m261 m268 m275 m282 m292 m299 m306 m319 m326 m354 m361 m368 m375 m382 m389 m396 m403 m410 m417 m424 m431 m438 m448 m455 m480 m487 m494)) st0 y.1) := by
  refine List.forall_mem_cons.mpr ⟨?_, ?_⟩
  · show EQV _ (ct _ _ 0)
    rw [ct_o (ci := 11) kd_0]; exact EQV_rf
  refine List.forall_mem_cons.mpr ⟨?_, ?_⟩
  · show EQV _ (ct _ _ 1)
    rw [ct_o (ci := 1) kd_1]; exact EQV_rf
  refine List.forall_mem_cons.mpr ⟨?_, ?_⟩
  · show EQV _ (ct _ _ 2)
    rw [ct_r kd_2 (by decide) (by decide)]; exact EQV_rf
  refine List.forall_mem_cons.mpr ⟨?_, ?_⟩
  · show EQV _ (ct _ _ 3)
    rw [ct_i kd_3 (by decide)]; exact EQV_rf
  refine List.forall_mem_cons.mpr ⟨?_, ?_⟩
  · show EQV _ (ct _ _ 4)
    rw [ct_i kd_4 (by decide)]; exact EQV_rf
  refine List.forall_mem_cons.mpr ⟨?_, ?_⟩
  · show EQV _ (ct _ _ 5)
    rw [ct_i kd_5 (by decide)]; exact EQV_rf
  refine List.forall_mem_cons.mpr ⟨?_, ?_⟩
  · show EQV _ (ct _ _ 6)
    rw [ct_i kd_6 (by decide)]; exact EQV_rf
  refine List.forall_mem_cons.mpr ⟨?_, ?_⟩
  · show EQV _ (ct _ _ 7)
    rw [ct_i kd_7 (by decide)]; exact EQV_rf
  refine List.forall_mem_cons.mpr ⟨?_, ?_⟩
  · show EQV _ (ct _ _ 8)
    rw [ct_i kd_8 (by decide)]; exact EQV_rf
  refine List.forall_mem_cons.mpr ⟨?_, ?_⟩
  · show EQV _ (ct _ _ 9)
    rw [ct_o (ci := 5) kd_9]; exact EQV_rf
  refine List.forall_mem_cons.mpr ⟨?_, ?_⟩
  · show EQV _ (ct _ _ 10)
    rw [ct_i kd_10 (by decide)]; exact EQV_rf
  refine List.forall_mem_cons.mpr ⟨?_, ?_⟩
  · show EQV _ (ct _ _ 11)
    rw [ct_o (ci := 5) kd_11]; exact EQV_rf
  refine List.forall_mem_cons.mpr ⟨?_, ?_⟩
  · show EQV _ (ct _ _ 12)
    rw [ct_i kd_12 (by decide)]; exact EQV_rf
  refine List.forall_mem_cons.mpr ⟨?_, ?_⟩
  · show EQV _ (ct _ _ 13)
    rw [ct_o (ci := 5) kd_13]; exact EQV_rf
  refine List.forall_mem_cons.mpr ⟨?_, ?_⟩
  · show EQV _ (ct _ _ 14)
    rw [ct_i kd_14 (by decide)]; exact EQV_rf
  refine List.forall_mem_cons.mpr ⟨?_, ?_⟩
  · show EQV _ (ct _ _ 15)
    rw [ct_i kd_15 (by decide)]; exact EQV_rf
  exact fun _ h => absurd h List.not_mem_nil
set_option maxRecDepth 100000 in
set_option maxHeartbeats 4000000 in
theorem stE_1 {V : Vx} (h0 x1 x3 x4 x5 x6 x7 x8 x9 x10 x11 x12 x13 x14 x15 x16 x17 x23 x25 x26 x27 x28 x29 x30 x31 x32 x33 x34 x35 x36 x37 x38 x39 x45 x47 x48 x49 x50 x51 x52 x53 x54 x55 x56 x57 x58 x59 x60 x61 x70 x80 x90 x97 x99 x105 x112 x119 x126 x128 x129 x130 x131 x143 x145 x151 x153 x159 x161 x167 x169 x175 x177 x183 x185 h1 m10 m17 m24 m31 m38 m45 m52 m59 m81 m88 m95 m102 m109 m116 m123 m130 m146 m213 m223 m230 m240 m247 m254 m261 m268 m275 m282 m292 m299 m306 m319 m326 m354 m361 m368 m375 m382 m389 m396 m403 m410 m417 m424 m431 m438 m448 m455 m480 m487 m494 : Nat) : ∀ y ∈ ([(16, (x17, .inl (vC V 0, (6, .inl (fun _ => 0))))), (17, (x23, .inr (1, [.ref x25, .int (0 : Int32), .ref x26, .int (0 : Int32), .ref x27, .ref x28, .ref x29, .ref x30, .ref x31, .int (0 : Int32), .ref x126, .int (-1 : Int32), .ref x32, .ref x34, .ref x36, .ref x38, .ref x39]))), (18, (x25, .inl (vC V 4, 6, .inr (.inr (.inr (.inr (fun _ => none))))))), (19, (x26, .inl (vC V 0, (6, .inl (fun _ => 0))))), (20, (x27, .inl (vC V 0, (6, .inl (fun _ => 0))))), (21, (x28, .inl (vC V 0, (6, .inl (fun _ => 0))))), (22, (x29, .inl (vC V 0, (6, .inl (fun _ => 0))))), (23, (x30, .inl (vC V 0, (6, .inl (fun _ => 0))))), (24, (x31, .inl (vC V 0, (24, .inl (fun _ => 0))))), (25, (x32, .inr (5, [.ref x33, .int (0 : Int32)]))), (26, (x33, .inl (vC V 0, (18, .inl (fun _ => 0))))), (27, (x34, .inr (5, [.ref x35, .int (0 : Int32)]))), (28, (x35, .inl (vC V 0, (10, .inl (fun _ => 0))))), (29, (x36, .inr (5, [.ref x37, .int (0 : Int32)]))), (30, (x37, .inl (vC V 0, (8, .inl (fun _ => 0))))), (31, (x38, .inl (vC V 0, (6, .inl (fun _ => 0)))))] : List (Nat × (Nat × va_E))), EQV y.2.2 (ct (stV V (stQ h0 x1 x3 x4 x5 x6 x7 x8 x9 x10 x11 x12 x13 x14 x15 x16 x17 x23 x25 x26 x27 x28 x29 x30 x31 x32 x33 x34 x35 x36 x37 x38 x39 x45 x47 x48 x49 x50 x51 x52 x53 x54 x55 x56 x57 x58 x59 x60 x61 x70 x80 x90 x97 x99 x105 x112 x119 x126 x128 x129 x130 x131 x143 x145 x151 x153 x159 x161 x167 x169 x175 x177 x183 x185 h1 m10 m17 m24 m31 m38 m45 m52 m59 m81 m88 m95 m102 m109 m116 m123 m130 m146 m213 m223 m230 m240 m247 m254 m261 m268 m275 m282 m292 m299 m306 m319 m326 m354 m361 m368 m375 m382 m389 m396 m403 m410 m417 m424 m431 m438 m448 m455 m480 m487 m494)) st0 y.1) := by
  refine List.forall_mem_cons.mpr ⟨?_, ?_⟩
  · show EQV _ (ct _ _ 16)
    rw [ct_i kd_16 (by decide)]; exact EQV_rf
  refine List.forall_mem_cons.mpr ⟨?_, ?_⟩
  · show EQV _ (ct _ _ 17)
    rw [ct_o (ci := 1) kd_17]; exact EQV_rf
  refine List.forall_mem_cons.mpr ⟨?_, ?_⟩
  · show EQV _ (ct _ _ 18)
    rw [ct_r kd_18 (by decide) (by decide)]; exact EQV_rf
  refine List.forall_mem_cons.mpr ⟨?_, ?_⟩
  · show EQV _ (ct _ _ 19)
    rw [ct_i kd_19 (by decide)]; exact EQV_rf
  refine List.forall_mem_cons.mpr ⟨?_, ?_⟩
  · show EQV _ (ct _ _ 20)
    rw [ct_i kd_20 (by decide)]; exact EQV_rf
  refine List.forall_mem_cons.mpr ⟨?_, ?_⟩
  · show EQV _ (ct _ _ 21)
    rw [ct_i kd_21 (by decide)]; exact EQV_rf
  refine List.forall_mem_cons.mpr ⟨?_, ?_⟩
  · show EQV _ (ct _ _ 22)
    rw [ct_i kd_22 (by decide)]; exact EQV_rf
  refine List.forall_mem_cons.mpr ⟨?_, ?_⟩
  · show EQV _ (ct _ _ 23)
    rw [ct_i kd_23 (by decide)]; exact EQV_rf
  refine List.forall_mem_cons.mpr ⟨?_, ?_⟩
  · show EQV _ (ct _ _ 24)
    rw [ct_i kd_24 (by decide)]; exact EQV_rf
  refine List.forall_mem_cons.mpr ⟨?_, ?_⟩
  · show EQV _ (ct _ _ 25)
    rw [ct_o (ci := 5) kd_25]; exact EQV_rf
  refine List.forall_mem_cons.mpr ⟨?_, ?_⟩
  · show EQV _ (ct _ _ 26)
    rw [ct_i kd_26 (by decide)]; exact EQV_rf
  refine List.forall_mem_cons.mpr ⟨?_, ?_⟩
  · show EQV _ (ct _ _ 27)
    rw [ct_o (ci := 5) kd_27]; exact EQV_rf
  refine List.forall_mem_cons.mpr ⟨?_, ?_⟩
  · show EQV _ (ct _ _ 28)
    rw [ct_i kd_28 (by decide)]; exact EQV_rf
  refine List.forall_mem_cons.mpr ⟨?_, ?_⟩
  · show EQV _ (ct _ _ 29)
    rw [ct_o (ci := 5) kd_29]; exact EQV_rf
  refine List.forall_mem_cons.mpr ⟨?_, ?_⟩
  · show EQV _ (ct _ _ 30)
    rw [ct_i kd_30 (by decide)]; exact EQV_rf
  refine List.forall_mem_cons.mpr ⟨?_, ?_⟩
  · show EQV _ (ct _ _ 31)
    rw [ct_i kd_31 (by decide)]; exact EQV_rf
  exact fun _ h => absurd h List.not_mem_nil
set_option maxRecDepth 100000 in
set_option maxHeartbeats 4000000 in
theorem stE_2 {V : Vx} (h0 x1 x3 x4 x5 x6 x7 x8 x9 x10 x11 x12 x13 x14 x15 x16 x17 x23 x25 x26 x27 x28 x29 x30 x31 x32 x33 x34 x35 x36 x37 x38 x39 x45 x47 x48 x49 x50 x51 x52 x53 x54 x55 x56 x57 x58 x59 x60 x61 x70 x80 x90 x97 x99 x105 x112 x119 x126 x128 x129 x130 x131 x143 x145 x151 x153 x159 x161 x167 x169 x175 x177 x183 x185 h1 m10 m17 m24 m31 m38 m45 m52 m59 m81 m88 m95 m102 m109 m116 m123 m130 m146 m213 m223 m230 m240 m247 m254 m261 m268 m275 m282 m292 m299 m306 m319 m326 m354 m361 m368 m375 m382 m389 m396 m403 m410 m417 m424 m431 m438 m448 m455 m480 m487 m494 : Nat) : ∀ y ∈ ([(32, (x39, .inl (vC V 0, (6, .inl (fun _ => 0))))), (33, (x45, .inr (1, [.ref x47, .int (0 : Int32), .ref x48, .int (0 : Int32), .ref x49, .ref x50, .ref x51, .ref x52, .ref x53, .int (0 : Int32), .ref x126, .int (-1 : Int32), .ref x54, .ref x56, .ref x58, .ref x60, .ref x61]))), (34, (x47, .inl (vC V 4, 6, .inr (.inr (.inr (.inr (fun _ => none))))))), (35, (x48, .inl (vC V 0, (6, .inl (fun _ => 0))))), (36, (x49, .inl (vC V 0, (6, .inl (fun _ => 0))))), (37, (x50, .inl (vC V 0, (6, .inl (fun _ => 0))))), (38, (x51, .inl (vC V 0, (6, .inl (fun _ => 0))))), (39, (x52, .inl (vC V 0, (6, .inl (fun _ => 0))))), (40, (x53, .inl (vC V 0, (24, .inl (fun _ => 0))))), (41, (x54, .inr (5, [.ref x55, .int (0 : Int32)]))), (42, (x55, .inl (vC V 0, (18, .inl (fun _ => 0))))), (43, (x56, .inr (5, [.ref x57, .int (0 : Int32)]))), (44, (x57, .inl (vC V 0, (10, .inl (fun _ => 0))))), (45, (x58, .inr (5, [.ref x59, .int (0 : Int32)]))), (46, (x59, .inl (vC V 0, (8, .inl (fun _ => 0))))), (47, (x60, .inl (vC V 0, (6, .inl (fun _ => 0)))))] : List (Nat × (Nat × va_E))), EQV y.2.2 (ct (stV V (stQ h0 x1 x3 x4 x5 x6 x7 x8 x9 x10 x11 x12 x13 x14 x15 x16 x17 x23 x25 x26 x27 x28 x29 x30 x31 x32 x33 x34 x35 x36 x37 x38 x39 x45 x47 x48 x49 x50 x51 x52 x53 x54 x55 x56 x57 x58 x59 x60 x61 x70 x80 x90 x97 x99 x105 x112 x119 x126 x128 x129 x130 x131 x143 x145 x151 x153 x159 x161 x167 x169 x175 x177 x183 x185 h1 m10 m17 m24 m31 m38 m45 m52 m59 m81 m88 m95 m102 m109 m116 m123 m130 m146 m213 m223 m230 m240 m247 m254 m261 m268 m275 m282 m292 m299 m306 m319 m326 m354 m361 m368 m375 m382 m389 m396 m403 m410 m417 m424 m431 m438 m448 m455 m480 m487 m494)) st0 y.1) := by
  refine List.forall_mem_cons.mpr ⟨?_, ?_⟩
  · show EQV _ (ct _ _ 32)
    rw [ct_i kd_32 (by decide)]; exact EQV_rf
  refine List.forall_mem_cons.mpr ⟨?_, ?_⟩
  · show EQV _ (ct _ _ 33)
    rw [ct_o (ci := 1) kd_33]; exact EQV_rf
  refine List.forall_mem_cons.mpr ⟨?_, ?_⟩
  · show EQV _ (ct _ _ 34)
    rw [ct_r kd_34 (by decide) (by decide)]; exact EQV_rf
  refine List.forall_mem_cons.mpr ⟨?_, ?_⟩
  · show EQV _ (ct _ _ 35)
    rw [ct_i kd_35 (by decide)]; exact EQV_rf
  refine List.forall_mem_cons.mpr ⟨?_, ?_⟩
  · show EQV _ (ct _ _ 36)
    rw [ct_i kd_36 (by decide)]; exact EQV_rf
  refine List.forall_mem_cons.mpr ⟨?_, ?_⟩
  · show EQV _ (ct _ _ 37)
    rw [ct_i kd_37 (by decide)]; exact EQV_rf
  refine List.forall_mem_cons.mpr ⟨?_, ?_⟩
  · show EQV _ (ct _ _ 38)
    rw [ct_i kd_38 (by decide)]; exact EQV_rf
  refine List.forall_mem_cons.mpr ⟨?_, ?_⟩
  · show EQV _ (ct _ _ 39)
    rw [ct_i kd_39 (by decide)]; exact EQV_rf
  refine List.forall_mem_cons.mpr ⟨?_, ?_⟩
  · show EQV _ (ct _ _ 40)
    rw [ct_i kd_40 (by decide)]; exact EQV_rf
  refine List.forall_mem_cons.mpr ⟨?_, ?_⟩
  · show EQV _ (ct _ _ 41)
    rw [ct_o (ci := 5) kd_41]; exact EQV_rf
  refine List.forall_mem_cons.mpr ⟨?_, ?_⟩
  · show EQV _ (ct _ _ 42)
    rw [ct_i kd_42 (by decide)]; exact EQV_rf
  refine List.forall_mem_cons.mpr ⟨?_, ?_⟩
  · show EQV _ (ct _ _ 43)
    rw [ct_o (ci := 5) kd_43]; exact EQV_rf
  refine List.forall_mem_cons.mpr ⟨?_, ?_⟩
  · show EQV _ (ct _ _ 44)
    rw [ct_i kd_44 (by decide)]; exact EQV_rf
  refine List.forall_mem_cons.mpr ⟨?_, ?_⟩
  · show EQV _ (ct _ _ 45)
    rw [ct_o (ci := 5) kd_45]; exact EQV_rf
  refine List.forall_mem_cons.mpr ⟨?_, ?_⟩
  · show EQV _ (ct _ _ 46)
    rw [ct_i kd_46 (by decide)]; exact EQV_rf
  refine List.forall_mem_cons.mpr ⟨?_, ?_⟩
  · show EQV _ (ct _ _ 47)
    rw [ct_i kd_47 (by decide)]; exact EQV_rf
  exact fun _ h => absurd h List.not_mem_nil
set_option maxRecDepth 100000 in
set_option maxHeartbeats 4000000 in
theorem stE_3 {V : Vx} (h0 x1 x3 x4 x5 x6 x7 x8 x9 x10 x11 x12 x13 x14 x15 x16 x17 x23 x25 x26 x27 x28 x29 x30 x31 x32 x33 x34 x35 x36 x37 x38 x39 x45 x47 x48 x49 x50 x51 x52 x53 x54 x55 x56 x57 x58 x59 x60 x61 x70 x80 x90 x97 x99 x105 x112 x119 x126 x128 x129 x130 x131 x143 x145 x151 x153 x159 x161 x167 x169 x175 x177 x183 x185 h1 m10 m17 m24 m31 m38 m45 m52 m59 m81 m88 m95 m102 m109 m116 m123 m130 m146 m213 m223 m230 m240 m247 m254 m261 m268 m275 m282 m292 m299 m306 m319 m326 m354 m361 m368 m375 m382 m389 m396 m403 m410 m417 m424 m431 m438 m448 m455 m480 m487 m494 : Nat) : ∀ y ∈ ([(48, (x61, .inl (vC V 0, (6, .inl (fun _ => 0))))), (49, (x70, .inl (vC V 5, 6, .inr (.inr (.inr (.inr (fun _ => none))))))), (50, (x80, .inl (vC V 1, (100, .inl (fun _ => 0))))), (51, (x90, .inl (vC V 6, 6, .inr (.inr (.inr (.inr (va_up (va_up (va_up (va_up (va_up (va_up (fun _ => none) 0 (some x143)) 1 (some x151)) 2 (some x159)) 3 (some x167)) 4 (some x175)) 5 (some x183)))))))), (64, (x97, .inr (5, [.ref x99, .int (0 : Int32)]))), (65, (x99, .inl (vC V 0, (20, .inl (fun _ => 0))))), (66, (x105, .inl (vC V 0, (5, .inl (fun _ => 0))))), (67, (x112, .inl (vC V 0, (5, .inl (fun _ => 0))))), (68, (x119, .inl (vC V 0, (6, .inl (fun _ => 0))))), (69, (x126, .inr (2, [.int (2 : Int32), .int (1 : Int32), .int (60 : Int32), .ref x128, .int (0 : Int32), .ref x129, .ref x130, .ref x131, .int (0 : Int32), .null, .int (0 : Int32), .int (0 : Int32)]))), (70, (x128, .inl (vC V 0, (100, .inl (fun _ => 0))))), (71, (x129, .inl (vC V 0, (10, .inl (fun _ => 0))))), (72, (x130, .inl (vC V 0, (10, .inl (fun _ => 0))))), (73, (x131, .inl (vC V 0, (10, .inl (fun _ => 0))))), (52, (x143, .inr (9, [.ref x145, .int (-1 : Int32), .int (0 : Int32)]))), (53, (x145, .inl (vC V 3, (60, .inr (.inl (fun _ => 0))))))] : List (Nat × (Nat × va_E))), EQV y.2.2 (ct (stV V (stQ h0 x1 x3 x4 x5 x6 x7 x8 x9 x10 x11 x12 x13 x14 x15 x16 x17 x23 x25 x26 x27 x28 x29 x30 x31 x32 x33 x34 x35 x36 x37 x38 x39 x45 x47 x48 x49 x50 x51 x52 x53 x54 x55 x56 x57 x58 x59 x60 x61 x70 x80 x90 x97 x99 x105 x112 x119 x126 x128 x129 x130 x131 x143 x145 x151 x153 x159 x161 x167 x169 x175 x177 x183 x185 h1 m10 m17 m24 m31 m38 m45 m52 m59 m81 m88 m95 m102 m109 m116 m123 m130 m146 m213 m223 m230 m240 m247 m254 m261 m268 m275 m282 m292 m299 m306 m319 m326 m354 m361 m368 m375 m382 m389 m396 m403 m410 m417 m424 m431 m438 m448 m455 m480 m487 m494)) st0 y.1) := by
  refine List.forall_mem_cons.mpr ⟨?_, ?_⟩
  · show EQV _ (ct _ _ 48)
    rw [ct_i kd_48 (by decide)]; exact EQV_rf
  refine List.forall_mem_cons.mpr ⟨?_, ?_⟩
  · show EQV _ (ct _ _ 49)
    rw [ct_r kd_49 (by decide) (by decide)]; exact EQV_rf
  refine List.forall_mem_cons.mpr ⟨?_, ?_⟩
  · show EQV _ (ct _ _ 50)
    rw [ct_i kd_50 (by decide)]; exact EQV_rf
  refine List.forall_mem_cons.mpr ⟨?_, ?_⟩
  · show EQV _ (ct _ _ 51)
    rw [ct_t kd_51]; exact EQV_refs (fun k hk => by rcases k with _ | _ | _ | _ | _ | _ | k <;> first | rfl | omega)
  refine List.forall_mem_cons.mpr ⟨?_, ?_⟩
  · show EQV _ (ct _ _ 64)
    rw [ct_o (ci := 5) kd_64]; exact EQV_rf
  refine List.forall_mem_cons.mpr ⟨?_, ?_⟩
  · show EQV _ (ct _ _ 65)
    rw [ct_i kd_65 (by decide)]; exact EQV_rf
  refine List.forall_mem_cons.mpr ⟨?_, ?_⟩
  · show EQV _ (ct _ _ 66)
    rw [ct_i kd_66 (by decide)]; exact EQV_rf
  refine List.forall_mem_cons.mpr ⟨?_, ?_⟩
  · show EQV _ (ct _ _ 67)
    rw [ct_i kd_67 (by decide)]; exact EQV_rf
  refine List.forall_mem_cons.mpr ⟨?_, ?_⟩
  · show EQV _ (ct _ _ 68)
    rw [ct_i kd_68 (by decide)]; exact EQV_rf
  refine List.forall_mem_cons.mpr ⟨?_, ?_⟩
  · show EQV _ (ct _ _ 69)
    rw [ct_o (ci := 2) kd_69]; exact EQV_rf
  refine List.forall_mem_cons.mpr ⟨?_, ?_⟩
  · show EQV _ (ct _ _ 70)
    rw [ct_i kd_70 (by decide)]; exact EQV_rf
  refine List.forall_mem_cons.mpr ⟨?_, ?_⟩
  · show EQV _ (ct _ _ 71)
    rw [ct_i kd_71 (by decide)]; exact EQV_rf
  refine List.forall_mem_cons.mpr ⟨?_, ?_⟩
  · show EQV _ (ct _ _ 72)
    rw [ct_i kd_72 (by decide)]; exact EQV_rf
  refine List.forall_mem_cons.mpr ⟨?_, ?_⟩
  · show EQV _ (ct _ _ 73)
    rw [ct_i kd_73 (by decide)]; exact EQV_rf
  refine List.forall_mem_cons.mpr ⟨?_, ?_⟩
  · show EQV _ (ct _ _ 52)
    rw [ct_o (ci := 9) kd_52]; exact EQV_rf
  refine List.forall_mem_cons.mpr ⟨?_, ?_⟩
  · show EQV _ (ct _ _ 53)
    rw [ct_l kd_53]; exact EQV_rf
  exact fun _ h => absurd h List.not_mem_nil
set_option maxRecDepth 100000 in
set_option maxHeartbeats 4000000 in
theorem stE_4 {V : Vx} (h0 x1 x3 x4 x5 x6 x7 x8 x9 x10 x11 x12 x13 x14 x15 x16 x17 x23 x25 x26 x27 x28 x29 x30 x31 x32 x33 x34 x35 x36 x37 x38 x39 x45 x47 x48 x49 x50 x51 x52 x53 x54 x55 x56 x57 x58 x59 x60 x61 x70 x80 x90 x97 x99 x105 x112 x119 x126 x128 x129 x130 x131 x143 x145 x151 x153 x159 x161 x167 x169 x175 x177 x183 x185 h1 m10 m17 m24 m31 m38 m45 m52 m59 m81 m88 m95 m102 m109 m116 m123 m130 m146 m213 m223 m230 m240 m247 m254 m261 m268 m275 m282 m292 m299 m306 m319 m326 m354 m361 m368 m375 m382 m389 m396 m403 m410 m417 m424 m431 m438 m448 m455 m480 m487 m494 : Nat) : ∀ y ∈ ([(54, (x151, .inr (9, [.ref x153, .int (-1 : Int32), .int (0 : Int32)]))), (55, (x153, .inl (vC V 3, (60, .inr (.inl (fun _ => 0)))))), (56, (x159, .inr (9, [.ref x161, .int (-1 : Int32), .int (0 : Int32)]))), (57, (x161, .inl (vC V 3, (60, .inr (.inl (fun _ => 0)))))), (58, (x167, .inr (9, [.ref x169, .int (-1 : Int32), .int (0 : Int32)]))), (59, (x169, .inl (vC V 3, (60, .inr (.inl (fun _ => 0)))))), (60, (x175, .inr (9, [.ref x177, .int (-1 : Int32), .int (0 : Int32)]))), (61, (x177, .inl (vC V 3, (60, .inr (.inl (fun _ => 0)))))), (62, (x183, .inr (9, [.ref x185, .int (-1 : Int32), .int (0 : Int32)]))), (63, (x185, .inl (vC V 3, (60, .inr (.inl (fun _ => 0)))))), (74, (h1, .inr (12, [.int (0 : Int32), .int (0 : Int32), .int (0 : Int32), .ref m10, .ref m17, .ref m24, .ref m31, .ref m38, .ref m45, .ref m52, .ref m59, .int (0 : Int32), .int (-1 : Int32), .int (0 : Int32), .int (0 : Int32), .int (0 : Int32), .ref m81, .ref m88, .ref m95, .ref m102, .ref m109, .ref m116, .ref m123, .ref m130, .int (0 : Int32), .int (0 : Int32), .int (0 : Int32), .ref m146, .int (-1 : Int32), .ref m213, .int (0 : Int32), .ref m223, .ref m230, .int (0 : Int32), .ref m240, .ref m247, .ref m254, .ref m261, .ref m268, .ref m275, .ref m282, .int (0 : Int32), .ref m292, .ref m299, .ref m306, .int (0 : Int32), .int (0 : Int32), .ref m319, .ref m326, .int (0 : Int32), .int (-1 : Int32), .int (0 : Int32), .int (0 : Int32), .int (0 : Int32), .int (0 : Int32), .int (0 : Int32), .ref m354, .ref m361, .ref m368, .ref m375, .ref m382, .ref m389, .ref m396, .ref m403, .ref m410, .ref m417, .ref m424, .ref m431, .ref m438, .int (0 : Int32), .ref m448, .ref m455, .ref m480, .ref m487, .ref m494]))), (103, (m10, .inl (vC V 0, (6, .inl (fun _ => 0))))), (104, (m17, .inl (vC V 0, (6, .inl (fun _ => 0))))), (105, (m24, .inl (vC V 0, (6, .inl (fun _ => 0))))), (106, (m31, .inl (vC V 0, (6, .inl (fun _ => 0))))), (107, (m38, .inl (vC V 0, (6, .inl (fun _ => 0)))))] : List (Nat × (Nat × va_E))), EQV y.2.2 (ct (stV V (stQ h0 x1 x3 x4 x5 x6 x7 x8 x9 x10 x11 x12 x13 x14 x15 x16 x17 x23 x25 x26 x27 x28 x29 x30 x31 x32 x33 x34 x35 x36 x37 x38 x39 x45 x47 x48 x49 x50 x51 x52 x53 x54 x55 x56 x57 x58 x59 x60 x61 x70 x80 x90 x97 x99 x105 x112 x119 x126 x128 x129 x130 x131 x143 x145 x151 x153 x159 x161 x167 x169 x175 x177 x183 x185 h1 m10 m17 m24 m31 m38 m45 m52 m59 m81 m88 m95 m102 m109 m116 m123 m130 m146 m213 m223 m230 m240 m247 m254 m261 m268 m275 m282 m292 m299 m306 m319 m326 m354 m361 m368 m375 m382 m389 m396 m403 m410 m417 m424 m431 m438 m448 m455 m480 m487 m494)) st0 y.1) := by
  refine List.forall_mem_cons.mpr ⟨?_, ?_⟩
  · show EQV _ (ct _ _ 54)
    rw [ct_o (ci := 9) kd_54]; exact EQV_rf
  refine List.forall_mem_cons.mpr ⟨?_, ?_⟩
  · show EQV _ (ct _ _ 55)
    rw [ct_l kd_55]; exact EQV_rf
  refine List.forall_mem_cons.mpr ⟨?_, ?_⟩
  · show EQV _ (ct _ _ 56)
    rw [ct_o (ci := 9) kd_56]; exact EQV_rf
  refine List.forall_mem_cons.mpr ⟨?_, ?_⟩
  · show EQV _ (ct _ _ 57)
    rw [ct_l kd_57]; exact EQV_rf
  refine List.forall_mem_cons.mpr ⟨?_, ?_⟩
  · show EQV _ (ct _ _ 58)
    rw [ct_o (ci := 9) kd_58]; exact EQV_rf
  refine List.forall_mem_cons.mpr ⟨?_, ?_⟩
  · show EQV _ (ct _ _ 59)
    rw [ct_l kd_59]; exact EQV_rf
  refine List.forall_mem_cons.mpr ⟨?_, ?_⟩
  · show EQV _ (ct _ _ 60)
    rw [ct_o (ci := 9) kd_60]; exact EQV_rf
  refine List.forall_mem_cons.mpr ⟨?_, ?_⟩
  · show EQV _ (ct _ _ 61)
    rw [ct_l kd_61]; exact EQV_rf
  refine List.forall_mem_cons.mpr ⟨?_, ?_⟩
  · show EQV _ (ct _ _ 62)
    rw [ct_o (ci := 9) kd_62]; exact EQV_rf
  refine List.forall_mem_cons.mpr ⟨?_, ?_⟩
  · show EQV _ (ct _ _ 63)
    rw [ct_l kd_63]; exact EQV_rf
  refine List.forall_mem_cons.mpr ⟨?_, ?_⟩
  · show EQV _ (ct _ _ 74)
    rw [ct_o (ci := 12) kd_74]
    show EQV _ (.inr (12, flds (va _) 74 stM stRn 12))
    rw [flds74]; exact EQV_rf
  refine List.forall_mem_cons.mpr ⟨?_, ?_⟩
  · show EQV _ (ct _ _ 103)
    rw [ct_i kd_103 (by decide)]; exact EQV_rf
  refine List.forall_mem_cons.mpr ⟨?_, ?_⟩
  · show EQV _ (ct _ _ 104)
    rw [ct_i kd_104 (by decide)]; exact EQV_rf
  refine List.forall_mem_cons.mpr ⟨?_, ?_⟩
  · show EQV _ (ct _ _ 105)
    rw [ct_i kd_105 (by decide)]; exact EQV_rf
  refine List.forall_mem_cons.mpr ⟨?_, ?_⟩
  · show EQV _ (ct _ _ 106)
    rw [ct_i kd_106 (by decide)]; exact EQV_rf
  refine List.forall_mem_cons.mpr ⟨?_, ?_⟩
  · show EQV _ (ct _ _ 107)
    rw [ct_i kd_107 (by decide)]; exact EQV_rf
  exact fun _ h => absurd h List.not_mem_nil
set_option maxRecDepth 100000 in
set_option maxHeartbeats 4000000 in
theorem stE_5 {V : Vx} (h0 x1 x3 x4 x5 x6 x7 x8 x9 x10 x11 x12 x13 x14 x15 x16 x17 x23 x25 x26 x27 x28 x29 x30 x31 x32 x33 x34 x35 x36 x37 x38 x39 x45 x47 x48 x49 x50 x51 x52 x53 x54 x55 x56 x57 x58 x59 x60 x61 x70 x80 x90 x97 x99 x105 x112 x119 x126 x128 x129 x130 x131 x143 x145 x151 x153 x159 x161 x167 x169 x175 x177 x183 x185 h1 m10 m17 m24 m31 m38 m45 m52 m59 m81 m88 m95 m102 m109 m116 m123 m130 m146 m213 m223 m230 m240 m247 m254 m261 m268 m275 m282 m292 m299 m306 m319 m326 m354 m361 m368 m375 m382 m389 m396 m403 m410 m417 m424 m431 m438 m448 m455 m480 m487 m494 : Nat) : ∀ y ∈ ([(108, (m45, .inl (vC V 0, (6, .inl (fun _ => 0))))), (109, (m52, .inl (vC V 0, (24, .inl (fun _ => 0))))), (110, (m59, .inl (vC V 0, (6, .inl (fun _ => 0))))), (116, (m81, .inl (vC V 0, (100, .inl (fun _ => 0))))), (117, (m88, .inl (vC V 0, (6, .inl (fun _ => 0))))), (118, (m95, .inl (vC V 0, (60, .inl (fun _ => 0))))), (119, (m102, .inl (vC V 0, (60, .inl (fun _ => 0))))), (120, (m109, .inl (vC V 0, (60, .inl (fun _ => 0))))), (121, (m116, .inl (vC V 0, (60, .inl (fun _ => 0))))), (122, (m123, .inl (vC V 0, (600, .inl (fun _ => 0))))), (123, (m130, .inl (vC V 0, (101, .inl (fun _ => 0))))), (127, (m146, .inl (vC V 0, (19, .inl (upd (upd (upd (upd (upd (upd (upd (upd (upd (upd (upd (upd (upd (upd (upd (upd (upd (upd (upd (fun _ => 0) 0 (102 : Int32)) 1 (97 : Int32)) 2 (115 : Int32)) 3 (116 : Int32)) 4 (115 : Int32)) 5 (108 : Int32)) 6 (111 : Int32)) 7 (119 : Int32)) 8 (103 : Int32)) 9 (97 : Int32)) 10 (112 : Int32)) 11 (116 : Int32)) 12 (105 : Int32)) 13 (114 : Int32)) 14 (101 : Int32)) 15 (108 : Int32)) 16 (111 : Int32)) 17 (110 : Int32)) 18 (103 : Int32)))))), (129, (m213, .inl (vC V 2, (100, .inl (fun _ => 0))))), (131, (m223, .inl (vC V 0, (6, .inl (fun _ => 0))))), (132, (m230, .inl (vC V 0, (6, .inl (fun _ => 0))))), (134, (m240, .inl (vC V 0, (6, .inl (fun _ => 0)))))] : List (Nat × (Nat × va_E))), EQV y.2.2 (ct (stV V (stQ h0 x1 x3 x4 x5 x6 x7 x8 x9 x10 x11 x12 x13 x14 x15 x16 x17 x23 x25 x26 x27 x28 x29 x30 x31 x32 x33 x34 x35 x36 x37 x38 x39 x45 x47 x48 x49 x50 x51 x52 x53 x54 x55 x56 x57 x58 x59 x60 x61 x70 x80 x90 x97 x99 x105 x112 x119 x126 x128 x129 x130 x131 x143 x145 x151 x153 x159 x161 x167 x169 x175 x177 x183 x185 h1 m10 m17 m24 m31 m38 m45 m52 m59 m81 m88 m95 m102 m109 m116 m123 m130 m146 m213 m223 m230 m240 m247 m254 m261 m268 m275 m282 m292 m299 m306 m319 m326 m354 m361 m368 m375 m382 m389 m396 m403 m410 m417 m424 m431 m438 m448 m455 m480 m487 m494)) st0 y.1) := by
  refine List.forall_mem_cons.mpr ⟨?_, ?_⟩
  · show EQV _ (ct _ _ 108)
    rw [ct_i kd_108 (by decide)]; exact EQV_rf
  refine List.forall_mem_cons.mpr ⟨?_, ?_⟩
  · show EQV _ (ct _ _ 109)
    rw [ct_i kd_109 (by decide)]; exact EQV_rf
  refine List.forall_mem_cons.mpr ⟨?_, ?_⟩
  · show EQV _ (ct _ _ 110)
    rw [ct_i kd_110 (by decide)]; exact EQV_rf
  refine List.forall_mem_cons.mpr ⟨?_, ?_⟩
  · show EQV _ (ct _ _ 116)
    rw [ct_i kd_116 (by decide)]; exact EQV_rf
  refine List.forall_mem_cons.mpr ⟨?_, ?_⟩
  · show EQV _ (ct _ _ 117)
    rw [ct_i kd_117 (by decide)]; exact EQV_rf
  refine List.forall_mem_cons.mpr ⟨?_, ?_⟩
  · show EQV _ (ct _ _ 118)
    rw [ct_i kd_118 (by decide)]; exact EQV_rf
  refine List.forall_mem_cons.mpr ⟨?_, ?_⟩
  · show EQV _ (ct _ _ 119)
    rw [ct_i kd_119 (by decide)]; exact EQV_rf
  refine List.forall_mem_cons.mpr ⟨?_, ?_⟩
  · show EQV _ (ct _ _ 120)
    rw [ct_i kd_120 (by decide)]; exact EQV_rf
  refine List.forall_mem_cons.mpr ⟨?_, ?_⟩
  · show EQV _ (ct _ _ 121)
    rw [ct_i kd_121 (by decide)]; exact EQV_rf
  refine List.forall_mem_cons.mpr ⟨?_, ?_⟩
  · show EQV _ (ct _ _ 122)
    rw [ct_i kd_122 (by decide)]; exact EQV_rf
  refine List.forall_mem_cons.mpr ⟨?_, ?_⟩
  · show EQV _ (ct _ _ 123)
    rw [ct_i kd_123 (by decide)]; exact EQV_rf
  refine List.forall_mem_cons.mpr ⟨?_, ?_⟩
  · show EQV _ (ct _ _ 127)
    rw [ct_i kd_127 (by decide)]; exact EQV_rf
  refine List.forall_mem_cons.mpr ⟨?_, ?_⟩
  · show EQV _ (ct _ _ 129)
    rw [ct_i kd_129 (by decide)]; exact EQV_rf
  refine List.forall_mem_cons.mpr ⟨?_, ?_⟩
  · show EQV _ (ct _ _ 131)
    rw [ct_i kd_131 (by decide)]; exact EQV_rf
  refine List.forall_mem_cons.mpr ⟨?_, ?_⟩
  · show EQV _ (ct _ _ 132)
    rw [ct_i kd_132 (by decide)]; exact EQV_rf
  refine List.forall_mem_cons.mpr ⟨?_, ?_⟩
  · show EQV _ (ct _ _ 134)
    rw [ct_i kd_134 (by decide)]; exact EQV_rf
  exact fun _ h => absurd h List.not_mem_nil
set_option maxRecDepth 100000 in
set_option maxHeartbeats 4000000 in
theorem stE_6 {V : Vx} (h0 x1 x3 x4 x5 x6 x7 x8 x9 x10 x11 x12 x13 x14 x15 x16 x17 x23 x25 x26 x27 x28 x29 x30 x31 x32 x33 x34 x35 x36 x37 x38 x39 x45 x47 x48 x49 x50 x51 x52 x53 x54 x55 x56 x57 x58 x59 x60 x61 x70 x80 x90 x97 x99 x105 x112 x119 x126 x128 x129 x130 x131 x143 x145 x151 x153 x159 x161 x167 x169 x175 x177 x183 x185 h1 m10 m17 m24 m31 m38 m45 m52 m59 m81 m88 m95 m102 m109 m116 m123 m130 m146 m213 m223 m230 m240 m247 m254 m261 m268 m275 m282 m292 m299 m306 m319 m326 m354 m361 m368 m375 m382 m389 m396 m403 m410 m417 m424 m431 m438 m448 m455 m480 m487 m494 : Nat) : ∀ y ∈ ([(135, (m247, .inl (vC V 0, (6, .inl (fun _ => 0))))), (136, (m254, .inl (vC V 0, (6, .inl (fun _ => 0))))), (137, (m261, .inl (vC V 0, (6, .inl (fun _ => 0))))), (138, (m268, .inl (vC V 0, (6, .inl (fun _ => 0))))), (139, (m275, .inl (vC V 0, (6, .inl (fun _ => 0))))), (140, (m282, .inl (vC V 0, (6, .inl (fun _ => 0))))), (142, (m292, .inl (vC V 0, (6, .inl (fun _ => 0))))), (143, (m299, .inl (vC V 0, (6, .inl (fun _ => 0))))), (144, (m306, .inl (vC V 0, (6, .inl (fun _ => 0))))), (147, (m319, .inl (vC V 0, (10, .inl (fun _ => 0))))), (148, (m326, .inl (vC V 0, (8, .inl (fun _ => 0))))), (156, (m354, .inl (vC V 0, (6, .inl (fun _ => 0))))), (157, (m361, .inl (vC V 0, (6, .inl (fun _ => 0))))), (158, (m368, .inl (vC V 0, (6, .inl (fun _ => 0))))), (159, (m375, .inl (vC V 0, (6, .inl (fun _ => 0))))), (160, (m382, .inl (vC V 0, (6, .inl (fun _ => 0)))))] : List (Nat × (Nat × va_E))), EQV y.2.2 (ct (stV V (stQ h0 x1 x3 x4 x5 x6 x7 x8 x9 x10 x11 x12 x13 x14 x15 x16 x17 x23 x25 x26 x27 x28 x29 x30 x31 x32 x33 x34 x35 x36 x37 x38 x39 x45 x47 x48 x49 x50 x51 x52 x53 x54 x55 x56 x57 x58 x59 x60 x61 x70 x80 x90 x97 x99 x105 x112 x119 x126 x128 x129 x130 x131 x143 x145 x151 x153 x159 x161 x167 x169 x175 x177 x183 x185 h1 m10 m17 m24 m31 m38 m45 m52 m59 m81 m88 m95 m102 m109 m116 m123 m130 m146 m213 m223 m230 m240 m247 m254 m261 m268 m275 m282 m292 m299 m306 m319 m326 m354 m361 m368 m375 m382 m389 m396 m403 m410 m417 m424 m431 m438 m448 m455 m480 m487 m494)) st0 y.1) := by
  refine List.forall_mem_cons.mpr ⟨?_, ?_⟩
  · show EQV _ (ct _ _ 135)
    rw [ct_i kd_135 (by decide)]; exact EQV_rf
  refine List.forall_mem_cons.mpr ⟨?_, ?_⟩
  · show EQV _ (ct _ _ 136)
    rw [ct_i kd_136 (by decide)]; exact EQV_rf
  refine List.forall_mem_cons.mpr ⟨?_, ?_⟩
  · show EQV _ (ct _ _ 137)
    rw [ct_i kd_137 (by decide)]; exact EQV_rf
  refine List.forall_mem_cons.mpr ⟨?_, ?_⟩
  · show EQV _ (ct _ _ 138)
    rw [ct_i kd_138 (by decide)]; exact EQV_rf
  refine List.forall_mem_cons.mpr ⟨?_, ?_⟩
  · show EQV _ (ct _ _ 139)
    rw [ct_i kd_139 (by decide)]; exact EQV_rf
  refine List.forall_mem_cons.mpr ⟨?_, ?_⟩
  · show EQV _ (ct _ _ 140)
    rw [ct_i kd_140 (by decide)]; exact EQV_rf
  refine List.forall_mem_cons.mpr ⟨?_, ?_⟩
  · show EQV _ (ct _ _ 142)
    rw [ct_i kd_142 (by decide)]; exact EQV_rf
  refine List.forall_mem_cons.mpr ⟨?_, ?_⟩
  · show EQV _ (ct _ _ 143)
    rw [ct_i kd_143 (by decide)]; exact EQV_rf
  refine List.forall_mem_cons.mpr ⟨?_, ?_⟩
  · show EQV _ (ct _ _ 144)
    rw [ct_i kd_144 (by decide)]; exact EQV_rf
  refine List.forall_mem_cons.mpr ⟨?_, ?_⟩
  · show EQV _ (ct _ _ 147)
    rw [ct_i kd_147 (by decide)]; exact EQV_rf
  refine List.forall_mem_cons.mpr ⟨?_, ?_⟩
  · show EQV _ (ct _ _ 148)
    rw [ct_i kd_148 (by decide)]; exact EQV_rf
  refine List.forall_mem_cons.mpr ⟨?_, ?_⟩
  · show EQV _ (ct _ _ 156)
    rw [ct_i kd_156 (by decide)]; exact EQV_rf
  refine List.forall_mem_cons.mpr ⟨?_, ?_⟩
  · show EQV _ (ct _ _ 157)
    rw [ct_i kd_157 (by decide)]; exact EQV_rf
  refine List.forall_mem_cons.mpr ⟨?_, ?_⟩
  · show EQV _ (ct _ _ 158)
    rw [ct_i kd_158 (by decide)]; exact EQV_rf
  refine List.forall_mem_cons.mpr ⟨?_, ?_⟩
  · show EQV _ (ct _ _ 159)
    rw [ct_i kd_159 (by decide)]; exact EQV_rf
  refine List.forall_mem_cons.mpr ⟨?_, ?_⟩
  · show EQV _ (ct _ _ 160)
    rw [ct_i kd_160 (by decide)]; exact EQV_rf
  exact fun _ h => absurd h List.not_mem_nil
set_option maxRecDepth 100000 in
set_option maxHeartbeats 4000000 in
theorem stE_7 {V : Vx} (h0 x1 x3 x4 x5 x6 x7 x8 x9 x10 x11 x12 x13 x14 x15 x16 x17 x23 x25 x26 x27 x28 x29 x30 x31 x32 x33 x34 x35 x36 x37 x38 x39 x45 x47 x48 x49 x50 x51 x52 x53 x54 x55 x56 x57 x58 x59 x60 x61 x70 x80 x90 x97 x99 x105 x112 x119 x126 x128 x129 x130 x131 x143 x145 x151 x153 x159 x161 x167 x169 x175 x177 x183 x185 h1 m10 m17 m24 m31 m38 m45 m52 m59 m81 m88 m95 m102 m109 m116 m123 m130 m146 m213 m223 m230 m240 m247 m254 m261 m268 m275 m282 m292 m299 m306 m319 m326 m354 m361 m368 m375 m382 m389 m396 m403 m410 m417 m424 m431 m438 m448 m455 m480 m487 m494 : Nat) : ∀ y ∈ ([(161, (m389, .inl (vC V 0, (6, .inl (fun _ => 0))))), (162, (m396, .inl (vC V 0, (6, .inl (fun _ => 0))))), (163, (m403, .inl (vC V 0, (24, .inl (fun _ => 0))))), (164, (m410, .inl (vC V 0, (6, .inl (fun _ => 0))))), (165, (m417, .inl (vC V 0, (6, .inl (fun _ => 0))))), (166, (m424, .inl (vC V 0, (6, .inl (fun _ => 0))))), (167, (m431, .inl (vC V 0, (10, .inl (fun _ => 0))))), (168, (m438, .inl (vC V 0, (8, .inl (fun _ => 0))))), (170, (m448, .inl (vC V 0, (20, .inl (fun _ => 0))))), (171, (m455, .inl (vC V 0, (6, .inl (upd (upd (upd (upd (upd (upd (fun _ => 0) 0 (-1 : Int32)) 1 (-1 : Int32)) 2 (-1 : Int32)) 3 (-1 : Int32)) 4 (-1 : Int32)) 5 (-1 : Int32)))))), (172, (m480, .inl (vC V 0, (6, .inl (fun _ => 0))))), (173, (m487, .inl (vC V 3, (360, .inr (.inl (fun _ => 0)))))), (174, (m494, .inl (vC V 3, (60, .inr (.inl (fun _ => 0))))))] : List (Nat × (Nat × va_E))), EQV y.2.2 (ct (stV V (stQ h0 x1 x3 x4 x5 x6 x7 x8 x9 x10 x11 x12 x13 x14 x15 x16 x17 x23 x25 x26 x27 x28 x29 x30 x31 x32 x33 x34 x35 x36 x37 x38 x39 x45 x47 x48 x49 x50 x51 x52 x53 x54 x55 x56 x57 x58 x59 x60 x61 x70 x80 x90 x97 x99 x105 x112 x119 x126 x128 x129 x130 x131 x143 x145 x151 x153 x159 x161 x167 x169 x175 x177 x183 x185 h1 m10 m17 m24 m31 m38 m45 m52 m59 m81 m88 m95 m102 m109 m116 m123 m130 m146 m213 m223 m230 m240 m247 m254 m261 m268 m275 m282 m292 m299 m306 m319 m326 m354 m361 m368 m375 m382 m389 m396 m403 m410 m417 m424 m431 m438 m448 m455 m480 m487 m494)) st0 y.1) := by
  refine List.forall_mem_cons.mpr ⟨?_, ?_⟩
  · show EQV _ (ct _ _ 161)
    rw [ct_i kd_161 (by decide)]; exact EQV_rf
  refine List.forall_mem_cons.mpr ⟨?_, ?_⟩
  · show EQV _ (ct _ _ 162)
    rw [ct_i kd_162 (by decide)]; exact EQV_rf
  refine List.forall_mem_cons.mpr ⟨?_, ?_⟩
  · show EQV _ (ct _ _ 163)
    rw [ct_i kd_163 (by decide)]; exact EQV_rf
  refine List.forall_mem_cons.mpr ⟨?_, ?_⟩
  · show EQV _ (ct _ _ 164)
    rw [ct_i kd_164 (by decide)]; exact EQV_rf
  refine List.forall_mem_cons.mpr ⟨?_, ?_⟩
  · show EQV _ (ct _ _ 165)
    rw [ct_i kd_165 (by decide)]; exact EQV_rf
  refine List.forall_mem_cons.mpr ⟨?_, ?_⟩
  · show EQV _ (ct _ _ 166)
    rw [ct_i kd_166 (by decide)]; exact EQV_rf
  refine List.forall_mem_cons.mpr ⟨?_, ?_⟩
  · show EQV _ (ct _ _ 167)
    rw [ct_i kd_167 (by decide)]; exact EQV_rf
  refine List.forall_mem_cons.mpr ⟨?_, ?_⟩
  · show EQV _ (ct _ _ 168)
    rw [ct_i kd_168 (by decide)]; exact EQV_rf
  refine List.forall_mem_cons.mpr ⟨?_, ?_⟩
  · show EQV _ (ct _ _ 170)
    rw [ct_i kd_170 (by decide)]; exact EQV_rf
  refine List.forall_mem_cons.mpr ⟨?_, ?_⟩
  · show EQV _ (ct _ _ 171)
    rw [ct_i kd_171 (by decide)]; exact EQV_rf
  refine List.forall_mem_cons.mpr ⟨?_, ?_⟩
  · show EQV _ (ct _ _ 172)
    rw [ct_i kd_172 (by decide)]; exact EQV_rf
  refine List.forall_mem_cons.mpr ⟨?_, ?_⟩
  · show EQV _ (ct _ _ 173)
    rw [ct_l kd_173]; exact EQV_rf
  refine List.forall_mem_cons.mpr ⟨?_, ?_⟩
  · show EQV _ (ct _ _ 174)
    rw [ct_l kd_174]; exact EQV_rf
  exact fun _ h => absurd h List.not_mem_nil
set_option maxRecDepth 100000 in
set_option maxHeartbeats 4000000 in
theorem st_E {V : Vx} (h0 x1 x3 x4 x5 x6 x7 x8 x9 x10 x11 x12 x13 x14 x15 x16 x17 x23 x25 x26 x27 x28 x29 x30 x31 x32 x33 x34 x35 x36 x37 x38 x39 x45 x47 x48 x49 x50 x51 x52 x53 x54 x55 x56 x57 x58 x59 x60 x61 x70 x80 x90 x97 x99 x105 x112 x119 x126 x128 x129 x130 x131 x143 x145 x151 x153 x159 x161 x167 x169 x175 x177 x183 x185 h1 m10 m17 m24 m31 m38 m45 m52 m59 m81 m88 m95 m102 m109 m116 m123 m130 m146 m213 m223 m230 m240 m247 m254 m261 m268 m275 m282 m292 m299 m306 m319 m326 m354 m361 m368 m375 m382 m389 m396 m403 m410 m417 m424 m431 m438 m448 m455 m480 m487 m494 : Nat) : ∀ y ∈ stO.zip (stC0 V h0 x1 x3 x4 x5 x6 x7 x8 x9 x10 x11 x12 x13 x14 x15 x16 x17 x23 x25 x26 x27 x28 x29 x30 x31 x32 x33 x34 x35 x36 x37 x38 x39 x45 x47 x48 x49 x50 x51 x52 x53 x54 x55 x56 x57 x58 x59 x60 x61 x70 x80 x90 x97 x99 x105 x112 x119 x126 x128 x129 x130 x131 x143 x145 x151 x153 x159 x161 x167 x169 x175 x177 x183 x185 h1 m10 m17 m24 m31 m38 m45 m52 m59 m81 m88 m95 m102 m109 m116 m123 m130 m146 m213 m223 m230 m240 m247 m254 m261 m268 m275 m282 m292 m299 m306 m319 m326 m354 m361 m368 m375 m382 m389 m396 m403 m410 m417 m424 m431 m438 m448 m455 m480 m487 m494), EQV y.2.2 (ct (stV V (stQ h0 x1 x3 x4 x5 x6 x7 x8 x9 x10 x11 x12 x13 x14 x15 x16 x17 x23 x25 x26 x27 x28 x29 x30 x31 x32 x33 x34 x35 x36 x37 x38 x39 x45 x47 x48 x49 x50 x51 x52 x53 x54 x55 x56 x57 x58 x59 x60 x61 x70 x80 x90 x97 x99 x105 x112 x119 x126 x128 x129 x130 x131 x143 x145 x151 x153 x159 x161 x167 x169 x175 x177 x183 x185 h1 m10 m17 m24 m31 m38 m45 m52 m59 m81 m88 m95 m102 m109 m116 m123 m130 m146 m213 m223 m230 m240 m247 m254 m261 m268 m275 m282 m292 m299 m306 m319 m326 m354 m361 m368 m375 m382 m389 m396 m403 m410 m417 m424 m431 m438 m448 m455 m480 m487 m494)) st0 y.1) := by
  show ∀ y ∈ ([(0, (h0, .inr (11, [.ref x1, .ref x23, .ref x45, .int (0 : Int32), .ref x70, .int (0 : Int32), .ref x80, .int (0 : Int32), .ref x90, .ref x97, .ref x105, .ref x112, .ref x119]))), (1, (x1, .inr (1, [.ref x3, .int (0 : Int32), .ref x4, .int (0 : Int32), .ref x5, .ref x6, .ref x7, .ref x8, .ref x9, .int (0 : Int32), .ref x126, .int (-1 : Int32), .ref x10, .ref x12, .ref x14, .ref x16, .ref x17]))), (2, (x3, .inl (vC V 4, 6, .inr (.inr (.inr (.inr (fun _ => none))))))), (3, (x4, .inl (vC V 0, (6, .inl (fun _ => 0))))), (4, (x5, .inl (vC V 0, (6, .inl (fun _ => 0))))), (5, (x6, .inl (vC V 0, (6, .inl (fun _ => 0))))), (6, (x7, .inl (vC V 0, (6, .inl (fun _ => 0))))), (7, (x8, .inl (vC V 0, (6, .inl (fun _ => 0))))), (8, (x9, .inl (vC V 0, (24, .inl (fun _ => 0))))), (9, (x10, .inr (5, [.ref x11, .int (0 : Int32)]))), (10, (x11, .inl (vC V 0, (18, .inl (fun _ => 0))))), (11, (x12, .inr (5, [.ref x13, .int (0 : Int32)]))), (12, (x13, .inl (vC V 0, (10, .inl (fun _ => 0))))), (13, (x14, .inr (5, [.ref x15, .int (0 : Int32)]))), (14, (x15, .inl (vC V 0, (8, .inl (fun _ => 0))))), (15, (x16, .inl (vC V 0, (6, .inl (fun _ => 0)))))] ++ ([(16, (x17, .inl (vC V 0, (6, .inl (fun _ => 0))))), (17, (x23, .inr (1, [.ref x25, .int (0 : Int32), .ref x26, .int (0 : Int32), .ref x27, .ref x28, .ref x29, .ref x30, .ref x31, .int (0 : Int32), .ref x126, .int (-1 : Int32), .ref x32, .ref x34, .ref x36, .ref x38, .ref x39]))), (18, (x25, .inl (vC V 4, 6, .inr (.inr (.inr (.inr (fun _ => none))))))), (19, (x26, .inl (vC V 0, (6, .inl (fun _ => 0))))), (20, (x27, .inl (vC V 0, (6, .inl (fun _ => 0))))), (21, (x28, .inl (vC V 0, (6, .inl (fun _ => 0))))), (22, (x29, .inl (vC V 0, (6, .inl (fun _ => 0))))), (23, (x30, .inl (vC V 0, (6, .inl (fun _ => 0))))), (24, (x31, .inl (vC V 0, (24, .inl (fun _ => 0))))), (25, (x32, .inr (5, [.ref x33, .int (0 : Int32)]))), (26, (x33, .inl (vC V 0, (18, .inl (fun _ => 0))))), (27, (x34, .inr (5, [.ref x35, .int (0 : Int32)]))), (28, (x35, .inl (vC V 0, (10, .inl (fun _ => 0))))), (29, (x36, .inr (5, [.ref x37, .int (0 : Int32)]))), (30, (x37, .inl (vC V 0, (8, .inl (fun _ => 0))))), (31, (x38, .inl (vC V 0, (6, .inl (fun _ => 0)))))] ++ ([(32, (x39, .inl (vC V 0, (6, .inl (fun _ => 0))))), (33, (x45, .inr (1, [.ref x47, .int (0 : Int32), .ref x48, .int (0 : Int32), .ref x49, .ref x50, .ref x51, .ref x52, .ref x53, .int (0 : Int32), .ref x126, .int (-1 : Int32), .ref x54, .ref x56, .ref x58, .ref x60, .ref x61]))), (34, (x47, .inl (vC V 4, 6, .inr (.inr (.inr (.inr (fun _ => none))))))), (35, (x48, .inl (vC V 0, (6, .inl (fun _ => 0))))), (36, (x49, .inl (vC V 0, (6, .inl (fun _ => 0))))), (37, (x50, .inl (vC V 0, (6, .inl (fun _ => 0))))), (38, (x51, .inl (vC V 0, (6, .inl (fun _ => 0))))), (39, (x52, .inl (vC V 0, (6, .inl (fun _ => 0))))), (40, (x53, .inl (vC V 0, (24, .inl (fun _ => 0))))), (41, (x54, .inr (5, [.ref x55, .int (0 : Int32)]))), (42, (x55, .inl (vC V 0, (18, .inl (fun _ => 0))))), (43, (x56, .inr (5, [.ref x57, .int (0 : Int32)]))), (44, (x57, .inl (vC V 0, (10, .inl (fun _ => 0))))), (45, (x58, .inr (5, [.ref x59, .int (0 : Int32)]))), (46, (x59, .inl (vC V 0, (8, .inl (fun _ => 0))))), (47, (x60, .inl (vC V 0, (6, .inl (fun _ => 0)))))] ++ ([(48, (x61, .inl (vC V 0, (6, .inl (fun _ => 0))))), (49, (x70, .inl (vC V 5, 6, .inr (.inr (.inr (.inr (fun _ => none))))))), (50, (x80, .inl (vC V 1, (100, .inl (fun _ => 0))))), (51, (x90, .inl (vC V 6, 6, .inr (.inr (.inr (.inr (va_up (va_up (va_up (va_up (va_up (va_up (fun _ => none) 0 (some x143)) 1 (some x151)) 2 (some x159)) 3 (some x167)) 4 (some x175)) 5 (some x183)))))))), (64, (x97, .inr (5, [.ref x99, .int (0 : Int32)]))), (65, (x99, .inl (vC V 0, (20, .inl (fun _ => 0))))), (66, (x105, .inl (vC V 0, (5, .inl (fun _ => 0))))), (67, (x112, .inl (vC V 0, (5, .inl (fun _ => 0))))), (68, (x119, .inl (vC V 0, (6, .inl (fun _ => 0))))), (69, (x126, .inr (2, [.int (2 : Int32), .int (1 : Int32), .int (60 : Int32), .ref x128, .int (0 : Int32), .ref x129, .ref x130, .ref x131, .int (0 : Int32), .null, .int (0 : Int32), .int (0 : Int32)]))), (70, (x128, .inl (vC V 0, (100, .inl (fun _ => 0))))), (71, (x129, .inl (vC V 0, (10, .inl (fun _ => 0))))), (72, (x130, .inl (vC V 0, (10, .inl (fun _ => 0))))), (73, (x131, .inl (vC V 0, (10, .inl (fun _ => 0))))), (52, (x143, .inr (9, [.ref x145, .int (-1 : Int32), .int (0 : Int32)]))), (53, (x145, .inl (vC V 3, (60, .inr (.inl (fun _ => 0))))))] ++ ([(54, (x151, .inr (9, [.ref x153, .int (-1 : Int32), .int (0 : Int32)]))), (55, (x153, .inl (vC V 3, (60, .inr (.inl (fun _ => 0)))))), (56, (x159, .inr (9, [.ref x161, .int (-1 : Int32), .int (0 : Int32)]))), (57, (x161, .inl (vC V 3, (60, .inr (.inl (fun _ => 0)))))), (58, (x167, .inr (9, [.ref x169, .int (-1 : Int32), .int (0 : Int32)]))), (59, (x169, .inl (vC V 3, (60, .inr (.inl (fun _ => 0)))))), (60, (x175, .inr (9, [.ref x177, .int (-1 : Int32), .int (0 : Int32)]))), (61, (x177, .inl (vC V 3, (60, .inr (.inl (fun _ => 0)))))), (62, (x183, .inr (9, [.ref x185, .int (-1 : Int32), .int (0 : Int32)]))), (63, (x185, .inl (vC V 3, (60, .inr (.inl (fun _ => 0)))))), (74, (h1, .inr (12, [.int (0 : Int32), .int (0 : Int32), .int (0 : Int32), .ref m10, .ref m17, .ref m24, .ref m31, .ref m38, .ref m45, .ref m52, .ref m59, .int (0 : Int32), .int (-1 : Int32), .int (0 : Int32), .int (0 : Int32), .int (0 : Int32), .ref m81, .ref m88, .ref m95, .ref m102, .ref m109, .ref m116, .ref m123, .ref m130, .int (0 : Int32), .int (0 : Int32), .int (0 : Int32), .ref m146, .int (-1 : Int32), .ref m213, .int (0 : Int32), .ref m223, .ref m230, .int (0 : Int32), .ref m240, .ref m247, .ref m254, .ref m261, .ref m268, .ref m275, .ref m282, .int (0 : Int32), .ref m292, .ref m299, .ref m306, .int (0 : Int32), .int (0 : Int32), .ref m319, .ref m326, .int (0 : Int32), .int (-1 : Int32), .int (0 : Int32), .int (0 : Int32), .int (0 : Int32), .int (0 : Int32), .int (0 : Int32), .ref m354, .ref m361, .ref m368, .ref m375, .ref m382, .ref m389, .ref m396, .ref m403, .ref m410, .ref m417, .ref m424, .ref m431, .ref m438, .int (0 : Int32), .ref m448, .ref m455, .ref m480, .ref m487, .ref m494]))), (103, (m10, .inl (vC V 0, (6, .inl (fun _ => 0))))), (104, (m17, .inl (vC V 0, (6, .inl (fun _ => 0))))), (105, (m24, .inl (vC V 0, (6, .inl (fun _ => 0))))), (106, (m31, .inl (vC V 0, (6, .inl (fun _ => 0))))), (107, (m38, .inl (vC V 0, (6, .inl (fun _ => 0)))))] ++ ([(108, (m45, .inl (vC V 0, (6, .inl (fun _ => 0))))), (109, (m52, .inl (vC V 0, (24, .inl (fun _ => 0))))), (110, (m59, .inl (vC V 0, (6, .inl (fun _ => 0))))), (116, (m81, .inl (vC V 0, (100, .inl (fun _ => 0))))), (117, (m88, .inl (vC V 0, (6, .inl (fun _ => 0))))), (118, (m95, .inl (vC V 0, (60, .inl (fun _ => 0))))), (119, (m102, .inl (vC V 0, (60, .inl (fun _ => 0))))), (120, (m109, .inl (vC V 0, (60, .inl (fun _ => 0))))), (121, (m116, .inl (vC V 0, (60, .inl (fun _ => 0))))), (122, (m123, .inl (vC V 0, (600, .inl (fun _ => 0))))), (123, (m130, .inl (vC V 0, (101, .inl (fun _ => 0))))), (127, (m146, .inl (vC V 0, (19, .inl (upd (upd (upd (upd (upd (upd (upd (upd (upd (upd (upd (upd (upd (upd (upd (upd (upd (upd (upd (fun _ => 0) 0 (102 : Int32)) 1 (97 : Int32)) 2 (115 : Int32)) 3 (116 : Int32)) 4 (115 : Int32)) 5 (108 : Int32)) 6 (111 : Int32)) 7 (119 : Int32)) 8 (103 : Int32)) 9 (97 : Int32)) 10 (112 : Int32)) 11 (116 : Int32)) 12 (105 : Int32)) 13 (114 : Int32)) 14 (101 : Int32)) 15 (108 : Int32)) 16 (111 : Int32)) 17 (110 : Int32)) 18 (103 : Int32)))))), (129, (m213, .inl (vC V 2, (100, .inl (fun _ => 0))))), (131, (m223, .inl (vC V 0, (6, .inl (fun _ => 0))))), (132, (m230, .inl (vC V 0, (6, .inl (fun _ => 0))))), (134, (m240, .inl (vC V 0, (6, .inl (fun _ => 0)))))] ++ ([(135, (m247, .inl (vC V 0, (6, .inl (fun _ => 0))))), (136, (m254, .inl (vC V 0, (6, .inl (fun _ => 0))))), (137, (m261, .inl (vC V 0, (6, .inl (fun _ => 0))))), (138, (m268, .inl (vC V 0, (6, .inl (fun _ => 0))))), (139, (m275, .inl (vC V 0, (6, .inl (fun _ => 0))))), (140, (m282, .inl (vC V 0, (6, .inl (fun _ => 0))))), (142, (m292, .inl (vC V 0, (6, .inl (fun _ => 0))))), (143, (m299, .inl (vC V 0, (6, .inl (fun _ => 0))))), (144, (m306, .inl (vC V 0, (6, .inl (fun _ => 0))))), (147, (m319, .inl (vC V 0, (10, .inl (fun _ => 0))))), (148, (m326, .inl (vC V 0, (8, .inl (fun _ => 0))))), (156, (m354, .inl (vC V 0, (6, .inl (fun _ => 0))))), (157, (m361, .inl (vC V 0, (6, .inl (fun _ => 0))))), (158, (m368, .inl (vC V 0, (6, .inl (fun _ => 0))))), (159, (m375, .inl (vC V 0, (6, .inl (fun _ => 0))))), (160, (m382, .inl (vC V 0, (6, .inl (fun _ => 0)))))] ++ ([(161, (m389, .inl (vC V 0, (6, .inl (fun _ => 0))))), (162, (m396, .inl (vC V 0, (6, .inl (fun _ => 0))))), (163, (m403, .inl (vC V 0, (24, .inl (fun _ => 0))))), (164, (m410, .inl (vC V 0, (6, .inl (fun _ => 0))))), (165, (m417, .inl (vC V 0, (6, .inl (fun _ => 0))))), (166, (m424, .inl (vC V 0, (6, .inl (fun _ => 0))))), (167, (m431, .inl (vC V 0, (10, .inl (fun _ => 0))))), (168, (m438, .inl (vC V 0, (8, .inl (fun _ => 0))))), (170, (m448, .inl (vC V 0, (20, .inl (fun _ => 0))))), (171, (m455, .inl (vC V 0, (6, .inl (upd (upd (upd (upd (upd (upd (fun _ => 0) 0 (-1 : Int32)) 1 (-1 : Int32)) 2 (-1 : Int32)) 3 (-1 : Int32)) 4 (-1 : Int32)) 5 (-1 : Int32)))))), (172, (m480, .inl (vC V 0, (6, .inl (fun _ => 0))))), (173, (m487, .inl (vC V 3, (360, .inr (.inl (fun _ => 0)))))), (174, (m494, .inl (vC V 3, (60, .inr (.inl (fun _ => 0))))))]))))))) : List (Nat × (Nat × va_E))), _
  exact List.forall_mem_append.mpr ⟨stE_0 h0 x1 x3 x4 x5 x6 x7 x8 x9 x10 x11 x12 x13 x14 x15 x16 x17 x23 x25 x26 x27 x28 x29 x30 x31 x32 x33 x34 x35 x36 x37 x38 x39 x45 x47 x48 x49 x50 x51 x52 x53 x54 x55 x56 x57 x58 x59 x60 x61 x70 x80 x90 x97 x99 x105 x112 x119 x126 x128 x129 x130 x131 x143 x145 x151 x153 x159 x161 x167 x169 x175 x177 x183 x185 h1 m10 m17 m24 m31 m38 m45 m52 m59 m81 m88 m95 m102 m109 m116 m123 m130 m146 m213 m223 m230 m240 m247 m254 m261 m268 m275 m282 m292 m299 m306 m319 m326 m354 m361 m368 m375 m382 m389 m396 m403 m410 m417 m424 m431 m438 m448 m455 m480 m487 m494, List.forall_mem_append.mpr ⟨stE_1 h0 x1 x3 x4 x5 x6 x7 x8 x9 x10 x11 x12 x13 x14 x15 x16 x17 x23 x25 x26 x27 x28 x29 x30 x31 x32 x33 x34 x35 x36 x37 x38 x39 x45 x47 x48 x49 x50 x51 x52 x53 x54 x55 x56 x57 x58 x59 x60 x61 x70 x80 x90 x97 x99 x105 x112 x119 x126 x128 x129 x130 x131 x143 x145 x151 x153 x159 x161 x167 x169 x175 x177 x183 x185 h1 m10 m17 m24 m31 m38 m45 m52 m59 m81 m88 m95 m102 m109 m116 m123 m130 m146 m213 m223 m230 m240 m247 m254 m261 m268 m275 m282 m292 m299 m306 m319 m326 m354 m361 m368 m375 m382 m389 m396 m403 m410 m417 m424 m431 m438 m448 m455 m480 m487 m494, List.forall_mem_append.mpr ⟨stE_2 h0 x1 x3 x4 x5 x6 x7 x8 x9 x10 x11 x12 x13 x14 x15 x16 x17 x23 x25 x26 x27 x28 x29 x30 x31 x32 x33 x34 x35 x36 x37 x38 x39 x45 x47 x48 x49 x50 x51 x52 x53 x54 x55 x56 x57 x58 x59 x60 x61 x70 x80 x90 x97 x99 x105 x112 x119 x126 x128 x129 x130 x131 x143 x145 x151 x153 x159 x161 x167 x169 x175 x177 x183 x185 h1 m10 m17 m24 m31 m38 m45 m52 m59 m81 m88 m95 m102 m109 m116 m123 m130 m146 m213 m223 m230 m240 m247 m254 m261 m268 m275 m282 m292 m299 m306 m319 m326 m354 m361 m368 m375 m382 m389 m396 m403 m410 m417 m424 m431 m438 m448 m455 m480 m487 m494, List.forall_mem_append.mpr ⟨stE_3 h0 x1 x3 x4 x5 x6 x7 x8 x9 x10 x11 x12 x13 x14 x15 x16 x17 x23 x25 x26 x27 x28 x29 x30 x31 x32 x33 x34 x35 x36 x37 x38 x39 x45 x47 x48 x49 x50 x51 x52 x53 x54 x55 x56 x57 x58 x59 x60 x61 x70 x80 x90 x97 x99 x105 x112 x119 x126 x128 x129 x130 x131 x143 x145 x151 x153 x159 x161 x167 x169 x175 x177 x183 x185 h1 m10 m17 m24 m31 m38 m45 m52 m59 m81 m88 m95 m102 m109 m116 m123 m130 m146 m213 m223 m230 m240 m247 m254 m261 m268 m275 m282 m292 m299 m306 m319 m326 m354 m361 m368 m375 m382 m389 m396 m403 m410 m417 m424 m431 m438 m448 m455 m480 m487 m494, List.forall_mem_append.mpr ⟨stE_4 h0 x1 x3 x4 x5 x6 x7 x8 x9 x10 x11 x12 x13 x14 x15 x16 x17 x23 x25 x26 x27 x28 x29 x30 x31 x32 x33 x34 x35 x36 x37 x38 x39 x45 x47 x48 x49 x50 x51 x52 x53 x54 x55 x56 x57 x58 x59 x60 x61 x70 x80 x90 x97 x99 x105 x112 x119 x126 x128 x129 x130 x131 x143 x145 x151 x153 x159 x161 x167 x169 x175 x177 x183 x185 h1 m10 m17 m24 m31 m38 m45 m52 m59 m81 m88 m95 m102 m109 m116 m123 m130 m146 m213 m223 m230 m240 m247 m254 m261 m268 m275 m282 m292 m299 m306 m319 m326 m354 m361 m368 m375 m382 m389 m396 m403 m410 m417 m424 m431 m438 m448 m455 m480 m487 m494, List.forall_mem_append.mpr ⟨stE_5 h0 x1 x3 x4 x5 x6 x7 x8 x9 x10 x11 x12 x13 x14 x15 x16 x17 x23 x25 x26 x27 x28 x29 x30 x31 x32 x33 x34 x35 x36 x37 x38 x39 x45 x47 x48 x49 x50 x51 x52 x53 x54 x55 x56 x57 x58 x59 x60 x61 x70 x80 x90 x97 x99 x105 x112 x119 x126 x128 x129 x130 x131 x143 x145 x151 x153 x159 x161 x167 x169 x175 x177 x183 x185 h1 m10 m17 m24 m31 m38 m45 m52 m59 m81 m88 m95 m102 m109 m116 m123 m130 m146 m213 m223 m230 m240 m247 m254 m261 m268 m275 m282 m292 m299 m306 m319 m326 m354 m361 m368 m375 m382 m389 m396 m403 m410 m417 m424 m431 m438 m448 m455 m480 m487 m494, List.forall_mem_append.mpr ⟨stE_6 h0 x1 x3 x4 x5 x6 x7 x8 x9 x10 x11 x12 x13 x14 x15 x16 x17 x23 x25 x26 x27 x28 x29 x30 x31 x32 x33 x34 x35 x36 x37 x38 x39 x45 x47 x48 x49 x50 x51 x52 x53 x54 x55 x56 x57 x58 x59 x60 x61 x70 x80 x90 x97 x99 x105 x112 x119 x126 x128 x129 x130 x131 x143 x145 x151 x153 x159 x161 x167 x169 x175 x177 x183 x185 h1 m10 m17 m24 m31 m38 m45 m52 m59 m81 m88 m95 m102 m109 m116 m123 m130 m146 m213 m223 m230 m240 m247 m254 m261 m268 m275 m282 m292 m299 m306 m319 m326 m354 m361 m368 m375 m382 m389 m396 m403 m410 m417 m424 m431 m438 m448 m455 m480 m487 m494, stE_7 h0 x1 x3 x4 x5 x6 x7 x8 x9 x10 x11 x12 x13 x14 x15 x16 x17 x23 x25 x26 x27 x28 x29 x30 x31 x32 x33 x34 x35 x36 x37 x38 x39 x45 x47 x48 x49 x50 x51 x52 x53 x54 x55 x56 x57 x58 x59 x60 x61 x70 x80 x90 x97 x99 x105 x112 x119 x126 x128 x129 x130 x131 x143 x145 x151 x153 x159 x161 x167 x169 x175 x177 x183 x185 h1 m10 m17 m24 m31 m38 m45 m52 m59 m81 m88 m95 m102 m109 m116 m123 m130 m146 m213 m223 m230 m240 m247 m254 m261 m268 m275 m282 m292 m299 m306 m319 m326 m354 m361 m368 m375 m382 m389 m396 m403 m410 m417 m424 m431 m438 m448 m455 m480 m487 m494⟩⟩⟩⟩⟩⟩⟩
set_option maxRecDepth 100000 in
set_option maxHeartbeats 4000000 in
theorem st_L {V : Vx} (h0 x1 x3 x4 x5 x6 x7 x8 x9 x10 x11 x12 x13 x14 x15 x16 x17 x23 x25 x26 x27 x28 x29 x30 x31 x32 x33 x34 x35 x36 x37 x38 x39 x45 x47 x48 x49 x50 x51 x52 x53 x54 x55 x56 x57 x58 x59 x60 x61 x70 x80 x90 x97 x99 x105 x112 x119 x126 x128 x129 x130 x131 x143 x145 x151 x153 x159 x161 x167 x169 x175 x177 x183 x185 h1 m10 m17 m24 m31 m38 m45 m52 m59 m81 m88 m95 m102 m109 m116 m123 m130 m146 m213 m223 m230 m240 m247 m254 m261 m268 m275 m282 m292 m299 m306 m319 m326 m354 m361 m368 m375 m382 m389 m396 m403 m410 m417 m424 m431 m438 m448 m455 m480 m487 m494 : Nat) : (stC0 V h0 x1 x3 x4 x5 x6 x7 x8 x9 x10 x11 x12 x13 x14 x15 x16 x17 x23 x25 x26 x27 x28 x29 x30 x31 x32 x33 x34 x35 x36 x37 x38 x39 x45 x47 x48 x49 x50 x51 x52 x53 x54 x55 x56 x57 x58 x59 x60 x61 x70 x80 x90 x97 x99 x105 x112 x119 x126 x128 x129 x130 x131 x143 x145 x151 x153 x159 x161 x167 x169 x175 x177 x183 x185 h1 m10 m17 m24 m31 m38 m45 m52 m59 m81 m88 m95 m102 m109 m116 m123 m130 m146 m213 m223 m230 m240 m247 m254 m261 m268 m275 m282 m292 m299 m306 m319 m326 m354 m361 m368 m375 m382 m389 m396 m403 m410 m417 m424 m431 m438 m448 m455 m480 m487 m494).map (fun x => x.1) = stO.map (fun id => va (stV V (stQ h0 x1 x3 x4 x5 x6 x7 x8 x9 x10 x11 x12 x13 x14 x15 x16 x17 x23 x25 x26 x27 x28 x29 x30 x31 x32 x33 x34 x35 x36 x37 x38 x39 x45 x47 x48 x49 x50 x51 x52 x53 x54 x55 x56 x57 x58 x59 x60 x61 x70 x80 x90 x97 x99 x105 x112 x119 x126 x128 x129 x130 x131 x143 x145 x151 x153 x159 x161 x167 x169 x175 x177 x183 x185 h1 m10 m17 m24 m31 m38 m45 m52 m59 m81 m88 m95 m102 m109 m116 m123 m130 m146 m213 m223 m230 m240 m247 m254 m261 m268 m275 m282 m292 m299 m306 m319 m326 m354 m361 m368 m375 m382 m389 m396 m403 m410 m417 m424 m431 m438 m448 m455 m480 m487 m494)) id) := rfl
