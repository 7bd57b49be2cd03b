/-! THE STATE: numbers, long numbers and references, each by the cell's number and the place in it -/
noncomputable abbrev Sg : Type := (Nat → Nat → Int32) × (Nat → Nat → Int64) × (Nat → Nat → Option Nat)
noncomputable def gi (σ : Sg) (a k : Nat) : Int32 := σ.1 a k
noncomputable def gl (σ : Sg) (a k : Nat) : Int64 := σ.2.1 a k
noncomputable def gr (σ : Sg) (a k : Nat) : Option Nat := σ.2.2 a k
noncomputable def sia (σ : Sg) (a : Nat) (f : Nat → Int32) : Sg := (va_up σ.1 a f, σ.2)
noncomputable def sla (σ : Sg) (a : Nat) (f : Nat → Int64) : Sg := (σ.1, va_up σ.2.1 a f, σ.2.2)
noncomputable def sra (σ : Sg) (a : Nat) (f : Nat → Option Nat) : Sg := (σ.1, σ.2.1, va_up σ.2.2 a f)
noncomputable def si (σ : Sg) (a k : Nat) (v : Int32) : Sg := sia σ a (upd (σ.1 a) k v)
noncomputable def sl (σ : Sg) (a k : Nat) (v : Int64) : Sg := sla σ a (vp_updL (σ.2.1 a) k v)
noncomputable def sr (σ : Sg) (a k : Nat) (v : Option Nat) : Sg := sra σ a (va_up (σ.2.2 a) k v)
noncomputable def kdT : List (Nat × Nat) := [(21, 0), (11, 0), (4, 6), (0, 6), (0, 6), (0, 6), (0, 6), (0, 6), (0, 24), (15, 0), (0, 18), (15, 0), (0, 10), (15, 0), (0, 8), (0, 6), (0, 6), (11, 0), (4, 6), (0, 6), (0, 6), (0, 6), (0, 6), (0, 6), (0, 24), (15, 0), (0, 18), (15, 0), (0, 10), (15, 0), (0, 8), (0, 6), (0, 6), (11, 0), (4, 6), (0, 6), (0, 6), (0, 6), (0, 6), (0, 6), (0, 24), (15, 0), (0, 18), (15, 0), (0, 10), (15, 0), (0, 8), (0, 6), (0, 6), (5, 6), (1, 100), (6, 6), (19, 0), (3, 60), (19, 0), (3, 60), (19, 0), (3, 60), (19, 0), (3, 60), (19, 0), (3, 60), (19, 0), (3, 60), (15, 0), (0, 20), (0, 5), (0, 5), (0, 6), (12, 0), (0, 100), (0, 10), (0, 10), (0, 10), (22, 0), (99, 0), (99, 0), (99, 0), (99, 0), (99, 0), (99, 0), (99, 0), (99, 0), (99, 0), (99, 0), (99, 0), (99, 0), (99, 0), (99, 0), (99, 0), (99, 0), (99, 0), (99, 0), (99, 0), (99, 0), (99, 0), (99, 0), (99, 0), (99, 0), (99, 0), (99, 0), (99, 0), (99, 0), (0, 6), (0, 6), (0, 6), (0, 6), (0, 6), (0, 6), (0, 24), (0, 6), (99, 0), (99, 0), (99, 0), (99, 0), (99, 0), (0, 100), (0, 6), (0, 60), (0, 60), (0, 60), (0, 60), (0, 600), (0, 101), (99, 0), (99, 0), (99, 0), (0, 19), (99, 0), (2, 100), (99, 0), (0, 6), (0, 6), (99, 0), (0, 6), (0, 6), (0, 6), (0, 6), (0, 6), (0, 6), (0, 6), (99, 0), (0, 6), (0, 6), (0, 6), (99, 0), (99, 0), (0, 10), (0, 8), (99, 0), (99, 0), (99, 0), (99, 0), (99, 0), (99, 0), (99, 0), (0, 6), (0, 6), (0, 6), (0, 6), (0, 6), (0, 6), (0, 6), (0, 24), (0, 6), (0, 6), (0, 6), (0, 10), (0, 8), (99, 0), (0, 20), (0, 6), (0, 6), (3, 360), (3, 60)]
/-- the kinds under the first: by their numbers among the kinds of objects -/
noncomputable def mcs : List Nat := [0, 3, 4, 6, 7, 8, 10]
noncomputable def fkd (r : Nat) : Nat × Nat := if r = 0 then (12, 0) else if r = 1 then (0, 100) else (0, 10)
/-- what kind of cell a number stands for: 0 ints, 1 bytes, 2 booleans, 3 longs, 4 mowers, 5 fields, 6 tapes (and how many), 10 and more: an object of that kind -/
noncomputable def kd (id : Nat) : Nat × Nat := if id < 175 then kdT.getD id (99, 0) else if id < 1000 then (99, 0) else if id < 2000 then fkd ((id - 1000) % 5) else if mcs.contains (id % 16) then (10 + id % 16, 0) else (99, 0)
noncomputable def tplT : List (List Nat) := [[0, 0, 0], [3, 0, 4, 0, 5, 6, 7, 8, 9, 0, 1, 0, 10, 12, 14, 16, 17], [0, 0, 0, 3, 0, 4, 5, 6, 0, 1, 0, 0], [0, 0, 0], [0, 0, 0], [3, 0], [0, 0, 0], [0, 0, 0], [0, 0, 0], [3, 0, 0], [0, 0, 0], [3, 19, 35, 0, 51, 0, 52, 0, 53, 66, 68, 69, 70], [0, 0, 0, 31, 32, 33, 34, 35, 36, 37, 38, 0, 0, 0, 0, 0, 44, 45, 46, 47, 48, 49, 50, 51, 0, 0, 0, 55, 0, 57, 0, 59, 60, 0, 62, 63, 64, 65, 66, 67, 68, 0, 70, 71, 72, 0, 0, 75, 76, 0, 0, 0, 0, 0, 0, 0, 84, 85, 86, 87, 88, 89, 90, 91, 92, 93, 94, 95, 96, 0, 98, 99, 100, 101, 102]]
noncomputable def tp (ci k : Nat) : Option Nat := (tplT.getD ci [])[k]?
noncomputable def fv (ad : Nat → Nat) (id : Nat) (f : Nat → Int32) (r : Nat → Option Nat) (k c : Nat) : Value := if c = 0 then .int (f k) else if c = 1 then va_rf ((r k).map ad) else .ref (ad (id + (c - 2)))
noncomputable def flds (ad : Nat → Nat) (id : Nat) (f : Nat → Int32) (r : Nat → Option Nat) (ci : Nat) : List Value := (tplT.getD ci []).mapIdx (fun k c => fv ad id f r k c)
/-- what stays the same for a launch: the tables' numbers, the array kinds, the addresses that may change, the cells' addresses, the cells that were made later, what else is known of the machine -/
noncomputable abbrev Vx : Type := va_G × (Nat → ClassId) × (Nat → Prop) × (Nat → Nat) × List Nat × (State → Prop)
noncomputable def vD (V : Vx) : va_G := V.1
noncomputable def vC (V : Vx) : Nat → ClassId := V.2.1
noncomputable def vA (V : Vx) : Nat → Prop := V.2.2.1
noncomputable def va (V : Vx) : Nat → Nat := V.2.2.2.1
noncomputable def vL (V : Vx) : List Nat := V.2.2.2.2.1
noncomputable def vX (V : Vx) : State → Prop := V.2.2.2.2.2
noncomputable def tysV (V : Vx) : List (ClassId × FieldType) := [(vC V 0, .int), (vC V 1, .byte), (vC V 2, .boolean), (vC V 3, .long), (vC V 4, .object "NineMowers$Mower"), (vC V 5, .object "NineMowers$Field"), (vC V 6, .object "NineMowers$Tape")]
noncomputable def cont (V : Vx) (f : Nat → Int32) (g : Nat → Int64) (r : Nat → Option Nat) (id : Nat) : va_E :=
  if (kd id).1 < 3 then .inl (vC V (kd id).1, (kd id).2, .inl f)
  else if (kd id).1 = 3 then .inl (vC V 3, (kd id).2, .inr (.inl g))
  else if (kd id).1 < 6 then .inl (vC V (kd id).1, (kd id).2, .inr (.inr (.inr (.inr (fun k => (r k).map (va V))))))
  else if (kd id).1 = 6 then .inl (vC V 6, (kd id).2, .inr (.inr (.inr (.inr (fun k => some (va V (id + 1 + 2 * k)))))))
  else .inr ((kd id).1 - 10, flds (va V) id f r ((kd id).1 - 10))
noncomputable def fixL : List Nat := [0, 1, 2, 3, 4, 5, 6, 7, 8, 9, 10, 11, 12, 13, 14, 15, 16, 17, 18, 19, 20, 21, 22, 23, 24, 25, 26, 27, 28, 29, 30, 31, 32, 33, 34, 35, 36, 37, 38, 39, 40, 41, 42, 43, 44, 45, 46, 47, 48, 49, 50, 51, 52, 53, 54, 55, 56, 57, 58, 59, 60, 61, 62, 63, 64, 65, 66, 67, 68, 69, 70, 71, 72, 73, 74, 103, 104, 105, 106, 107, 108, 109, 110, 116, 117, 118, 119, 120, 121, 122, 123, 127, 129, 131, 132, 134, 135, 136, 137, 138, 139, 140, 142, 143, 144, 147, 148, 156, 157, 158, 159, 160, 161, 162, 163, 164, 165, 166, 167, 168, 170, 171, 172, 173, 174]
theorem kd_0 : kd 0 = (21, 0) := by decide +kernel
theorem fx_0 : 0 ∈ fixL := by decide +kernel
theorem kd_1 : kd 1 = (11, 0) := by decide +kernel
theorem fx_1 : 1 ∈ fixL := by decide +kernel
theorem kd_2 : kd 2 = (4, 6) := by decide +kernel
theorem fx_2 : 2 ∈ fixL := by decide +kernel
theorem kd_3 : kd 3 = (0, 6) := by decide +kernel
theorem fx_3 : 3 ∈ fixL := by decide +kernel
theorem kd_4 : kd 4 = (0, 6) := by decide +kernel
theorem fx_4 : 4 ∈ fixL := by decide +kernel
theorem kd_5 : kd 5 = (0, 6) := by decide +kernel
theorem fx_5 : 5 ∈ fixL := by decide +kernel
theorem kd_6 : kd 6 = (0, 6) := by decide +kernel
theorem fx_6 : 6 ∈ fixL := by decide +kernel
theorem kd_7 : kd 7 = (0, 6) := by decide +kernel
theorem fx_7 : 7 ∈ fixL := by decide +kernel
theorem kd_8 : kd 8 = (0, 24) := by decide +kernel
theorem fx_8 : 8 ∈ fixL := by decide +kernel
theorem kd_9 : kd 9 = (15, 0) := by decide +kernel
theorem fx_9 : 9 ∈ fixL := by decide +kernel
theorem kd_10 : kd 10 = (0, 18) := by decide +kernel
theorem fx_10 : 10 ∈ fixL := by decide +kernel
theorem kd_11 : kd 11 = (15, 0) := by decide +kernel
theorem fx_11 : 11 ∈ fixL := by decide +kernel
theorem kd_12 : kd 12 = (0, 10) := by decide +kernel
theorem fx_12 : 12 ∈ fixL := by decide +kernel
theorem kd_13 : kd 13 = (15, 0) := by decide +kernel
theorem fx_13 : 13 ∈ fixL := by decide +kernel
theorem kd_14 : kd 14 = (0, 8) := by decide +kernel
theorem fx_14 : 14 ∈ fixL := by decide +kernel
theorem kd_15 : kd 15 = (0, 6) := by decide +kernel
theorem fx_15 : 15 ∈ fixL := by decide +kernel
theorem kd_16 : kd 16 = (0, 6) := by decide +kernel
theorem fx_16 : 16 ∈ fixL := by decide +kernel
theorem kd_17 : kd 17 = (11, 0) := by decide +kernel
theorem fx_17 : 17 ∈ fixL := by decide +kernel
theorem kd_18 : kd 18 = (4, 6) := by decide +kernel
theorem fx_18 : 18 ∈ fixL := by decide +kernel
theorem kd_19 : kd 19 = (0, 6) := by decide +kernel
theorem fx_19 : 19 ∈ fixL := by decide +kernel
theorem kd_20 : kd 20 = (0, 6) := by decide +kernel
theorem fx_20 : 20 ∈ fixL := by decide +kernel
theorem kd_21 : kd 21 = (0, 6) := by decide +kernel
theorem fx_21 : 21 ∈ fixL := by decide +kernel
theorem kd_22 : kd 22 = (0, 6) := by decide +kernel
theorem fx_22 : 22 ∈ fixL := by decide +kernel
theorem kd_23 : kd 23 = (0, 6) := by decide +kernel
theorem fx_23 : 23 ∈ fixL := by decide +kernel
theorem kd_24 : kd 24 = (0, 24) := by decide +kernel
theorem fx_24 : 24 ∈ fixL := by decide +kernel
theorem kd_25 : kd 25 = (15, 0) := by decide +kernel
theorem fx_25 : 25 ∈ fixL := by decide +kernel
theorem kd_26 : kd 26 = (0, 18) := by decide +kernel
theorem fx_26 : 26 ∈ fixL := by decide +kernel
theorem kd_27 : kd 27 = (15, 0) := by decide +kernel
theorem fx_27 : 27 ∈ fixL := by decide +kernel
theorem kd_28 : kd 28 = (0, 10) := by decide +kernel
theorem fx_28 : 28 ∈ fixL := by decide +kernel
theorem kd_29 : kd 29 = (15, 0) := by decide +kernel
theorem fx_29 : 29 ∈ fixL := by decide +kernel
theorem kd_30 : kd 30 = (0, 8) := by decide +kernel
theorem fx_30 : 30 ∈ fixL := by decide +kernel
theorem kd_31 : kd 31 = (0, 6) := by decide +kernel
theorem fx_31 : 31 ∈ fixL := by decide +kernel
theorem kd_32 : kd 32 = (0, 6) := by decide +kernel
theorem fx_32 : 32 ∈ fixL := by decide +kernel
theorem kd_33 : kd 33 = (11, 0) := by decide +kernel
theorem fx_33 : 33 ∈ fixL := by decide +kernel
theorem kd_34 : kd 34 = (4, 6) := by decide +kernel
theorem fx_34 : 34 ∈ fixL := by decide +kernel
theorem kd_35 : kd 35 = (0, 6) := by decide +kernel
theorem fx_35 : 35 ∈ fixL := by decide +kernel
theorem kd_36 : kd 36 = (0, 6) := by decide +kernel
theorem fx_36 : 36 ∈ fixL := by decide +kernel
theorem kd_37 : kd 37 = (0, 6) := by decide +kernel
theorem fx_37 : 37 ∈ fixL := by decide +kernel
theorem kd_38 : kd 38 = (0, 6) := by decide +kernel
theorem fx_38 : 38 ∈ fixL := by decide +kernel
theorem kd_39 : kd 39 = (0, 6) := by decide +kernel
theorem fx_39 : 39 ∈ fixL := by decide +kernel
theorem kd_40 : kd 40 = (0, 24) := by decide +kernel
theorem fx_40 : 40 ∈ fixL := by decide +kernel
theorem kd_41 : kd 41 = (15, 0) := by decide +kernel
theorem fx_41 : 41 ∈ fixL := by decide +kernel
theorem kd_42 : kd 42 = (0, 18) := by decide +kernel
theorem fx_42 : 42 ∈ fixL := by decide +kernel
theorem kd_43 : kd 43 = (15, 0) := by decide +kernel
theorem fx_43 : 43 ∈ fixL := by decide +kernel
theorem kd_44 : kd 44 = (0, 10) := by decide +kernel
theorem fx_44 : 44 ∈ fixL := by decide +kernel
theorem kd_45 : kd 45 = (15, 0) := by decide +kernel
theorem fx_45 : 45 ∈ fixL := by decide +kernel
theorem kd_46 : kd 46 = (0, 8) := by decide +kernel
theorem fx_46 : 46 ∈ fixL := by decide +kernel
theorem kd_47 : kd 47 = (0, 6) := by decide +kernel
theorem fx_47 : 47 ∈ fixL := by decide +kernel
theorem kd_48 : kd 48 = (0, 6) := by decide +kernel
theorem fx_48 : 48 ∈ fixL := by decide +kernel
theorem kd_49 : kd 49 = (5, 6) := by decide +kernel
theorem fx_49 : 49 ∈ fixL := by decide +kernel
theorem kd_50 : kd 50 = (1, 100) := by decide +kernel
theorem fx_50 : 50 ∈ fixL := by decide +kernel
theorem kd_51 : kd 51 = (6, 6) := by decide +kernel
theorem fx_51 : 51 ∈ fixL := by decide +kernel
theorem kd_52 : kd 52 = (19, 0) := by decide +kernel
theorem fx_52 : 52 ∈ fixL := by decide +kernel
theorem kd_53 : kd 53 = (3, 60) := by decide +kernel
theorem fx_53 : 53 ∈ fixL := by decide +kernel
theorem kd_54 : kd 54 = (19, 0) := by decide +kernel
theorem fx_54 : 54 ∈ fixL := by decide +kernel
theorem kd_55 : kd 55 = (3, 60) := by decide +kernel
theorem fx_55 : 55 ∈ fixL := by decide +kernel
theorem kd_56 : kd 56 = (19, 0) := by decide +kernel
theorem fx_56 : 56 ∈ fixL := by decide +kernel
theorem kd_57 : kd 57 = (3, 60) := by decide +kernel
theorem fx_57 : 57 ∈ fixL := by decide +kernel
theorem kd_58 : kd 58 = (19, 0) := by decide +kernel
theorem fx_58 : 58 ∈ fixL := by decide +kernel
theorem kd_59 : kd 59 = (3, 60) := by decide +kernel
theorem fx_59 : 59 ∈ fixL := by decide +kernel
theorem kd_60 : kd 60 = (19, 0) := by decide +kernel
theorem fx_60 : 60 ∈ fixL := by decide +kernel
theorem kd_61 : kd 61 = (3, 60) := by decide +kernel
theorem fx_61 : 61 ∈ fixL := by decide +kernel
theorem kd_62 : kd 62 = (19, 0) := by decide +kernel
theorem fx_62 : 62 ∈ fixL := by decide +kernel
theorem kd_63 : kd 63 = (3, 60) := by decide +kernel
theorem fx_63 : 63 ∈ fixL := by decide +kernel
theorem kd_64 : kd 64 = (15, 0) := by decide +kernel
theorem fx_64 : 64 ∈ fixL := by decide +kernel
theorem kd_65 : kd 65 = (0, 20) := by decide +kernel
theorem fx_65 : 65 ∈ fixL := by decide +kernel
theorem kd_66 : kd 66 = (0, 5) := by decide +kernel
theorem fx_66 : 66 ∈ fixL := by decide +kernel
theorem kd_67 : kd 67 = (0, 5) := by decide +kernel
theorem fx_67 : 67 ∈ fixL := by decide +kernel
theorem kd_68 : kd 68 = (0, 6) := by decide +kernel
theorem fx_68 : 68 ∈ fixL := by decide +kernel
theorem kd_69 : kd 69 = (12, 0) := by decide +kernel
theorem fx_69 : 69 ∈ fixL := by decide +kernel
theorem kd_70 : kd 70 = (0, 100) := by decide +kernel
theorem fx_70 : 70 ∈ fixL := by decide +kernel
theorem kd_71 : kd 71 = (0, 10) := by decide +kernel
theorem fx_71 : 71 ∈ fixL := by decide +kernel
theorem kd_72 : kd 72 = (0, 10) := by decide +kernel
theorem fx_72 : 72 ∈ fixL := by decide +kernel
theorem kd_73 : kd 73 = (0, 10) := by decide +kernel
theorem fx_73 : 73 ∈ fixL := by decide +kernel
theorem kd_74 : kd 74 = (22, 0) := by decide +kernel
theorem fx_74 : 74 ∈ fixL := by decide +kernel
theorem kd_103 : kd 103 = (0, 6) := by decide +kernel
theorem fx_103 : 103 ∈ fixL := by decide +kernel
theorem kd_104 : kd 104 = (0, 6) := by decide +kernel
theorem fx_104 : 104 ∈ fixL := by decide +kernel
theorem kd_105 : kd 105 = (0, 6) := by decide +kernel
theorem fx_105 : 105 ∈ fixL := by decide +kernel
theorem kd_106 : kd 106 = (0, 6) := by decide +kernel
theorem fx_106 : 106 ∈ fixL := by decide +kernel
theorem kd_107 : kd 107 = (0, 6) := by decide +kernel
theorem fx_107 : 107 ∈ fixL := by decide +kernel
theorem kd_108 : kd 108 = (0, 6) := by decide +kernel
theorem fx_108 : 108 ∈ fixL := by decide +kernel
theorem kd_109 : kd 109 = (0, 24) := by decide +kernel
theorem fx_109 : 109 ∈ fixL := by decide +kernel
theorem kd_110 : kd 110 = (0, 6) := by decide +kernel
theorem fx_110 : 110 ∈ fixL := by decide +kernel
theorem kd_116 : kd 116 = (0, 100) := by decide +kernel
theorem fx_116 : 116 ∈ fixL := by decide +kernel
theorem kd_117 : kd 117 = (0, 6) := by decide +kernel
theorem fx_117 : 117 ∈ fixL := by decide +kernel
theorem kd_118 : kd 118 = (0, 60) := by decide +kernel
theorem fx_118 : 118 ∈ fixL := by decide +kernel
theorem kd_119 : kd 119 = (0, 60) := by decide +kernel
theorem fx_119 : 119 ∈ fixL := by decide +kernel
theorem kd_120 : kd 120 = (0, 60) := by decide +kernel
theorem fx_120 : 120 ∈ fixL := by decide +kernel
theorem kd_121 : kd 121 = (0, 60) := by decide +kernel
theorem fx_121 : 121 ∈ fixL := by decide +kernel
theorem kd_122 : kd 122 = (0, 600) := by decide +kernel
theorem fx_122 : 122 ∈ fixL := by decide +kernel
theorem kd_123 : kd 123 = (0, 101) := by decide +kernel
theorem fx_123 : 123 ∈ fixL := by decide +kernel
theorem kd_127 : kd 127 = (0, 19) := by decide +kernel
theorem fx_127 : 127 ∈ fixL := by decide +kernel
theorem kd_129 : kd 129 = (2, 100) := by decide +kernel
theorem fx_129 : 129 ∈ fixL := by decide +kernel
theorem kd_131 : kd 131 = (0, 6) := by decide +kernel
theorem fx_131 : 131 ∈ fixL := by decide +kernel
theorem kd_132 : kd 132 = (0, 6) := by decide +kernel
theorem fx_132 : 132 ∈ fixL := by decide +kernel
theorem kd_134 : kd 134 = (0, 6) := by decide +kernel
theorem fx_134 : 134 ∈ fixL := by decide +kernel
theorem kd_135 : kd 135 = (0, 6) := by decide +kernel
theorem fx_135 : 135 ∈ fixL := by decide +kernel
theorem kd_136 : kd 136 = (0, 6) := by decide +kernel
theorem fx_136 : 136 ∈ fixL := by decide +kernel
theorem kd_137 : kd 137 = (0, 6) := by decide +kernel
theorem fx_137 : 137 ∈ fixL := by decide +kernel
theorem kd_138 : kd 138 = (0, 6) := by decide +kernel
theorem fx_138 : 138 ∈ fixL := by decide +kernel
theorem kd_139 : kd 139 = (0, 6) := by decide +kernel
theorem fx_139 : 139 ∈ fixL := by decide +kernel
theorem kd_140 : kd 140 = (0, 6) := by decide +kernel
theorem fx_140 : 140 ∈ fixL := by decide +kernel
theorem kd_142 : kd 142 = (0, 6) := by decide +kernel
theorem fx_142 : 142 ∈ fixL := by decide +kernel
theorem kd_143 : kd 143 = (0, 6) := by decide +kernel
theorem fx_143 : 143 ∈ fixL := by decide +kernel
theorem kd_144 : kd 144 = (0, 6) := by decide +kernel
theorem fx_144 : 144 ∈ fixL := by decide +kernel
theorem kd_147 : kd 147 = (0, 10) := by decide +kernel
theorem fx_147 : 147 ∈ fixL := by decide +kernel
theorem kd_148 : kd 148 = (0, 8) := by decide +kernel
theorem fx_148 : 148 ∈ fixL := by decide +kernel
theorem kd_156 : kd 156 = (0, 6) := by decide +kernel
theorem fx_156 : 156 ∈ fixL := by decide +kernel
theorem kd_157 : kd 157 = (0, 6) := by decide +kernel
theorem fx_157 : 157 ∈ fixL := by decide +kernel
theorem kd_158 : kd 158 = (0, 6) := by decide +kernel
theorem fx_158 : 158 ∈ fixL := by decide +kernel
theorem kd_159 : kd 159 = (0, 6) := by decide +kernel
theorem fx_159 : 159 ∈ fixL := by decide +kernel
theorem kd_160 : kd 160 = (0, 6) := by decide +kernel
theorem fx_160 : 160 ∈ fixL := by decide +kernel
theorem kd_161 : kd 161 = (0, 6) := by decide +kernel
theorem fx_161 : 161 ∈ fixL := by decide +kernel
theorem kd_162 : kd 162 = (0, 6) := by decide +kernel
theorem fx_162 : 162 ∈ fixL := by decide +kernel
theorem kd_163 : kd 163 = (0, 24) := by decide +kernel
theorem fx_163 : 163 ∈ fixL := by decide +kernel
theorem kd_164 : kd 164 = (0, 6) := by decide +kernel
theorem fx_164 : 164 ∈ fixL := by decide +kernel
theorem kd_165 : kd 165 = (0, 6) := by decide +kernel
theorem fx_165 : 165 ∈ fixL := by decide +kernel
theorem kd_166 : kd 166 = (0, 6) := by decide +kernel
theorem fx_166 : 166 ∈ fixL := by decide +kernel
theorem kd_167 : kd 167 = (0, 10) := by decide +kernel
theorem fx_167 : 167 ∈ fixL := by decide +kernel
theorem kd_168 : kd 168 = (0, 8) := by decide +kernel
theorem fx_168 : 168 ∈ fixL := by decide +kernel
theorem kd_170 : kd 170 = (0, 20) := by decide +kernel
theorem fx_170 : 170 ∈ fixL := by decide +kernel
theorem kd_171 : kd 171 = (0, 6) := by decide +kernel
theorem fx_171 : 171 ∈ fixL := by decide +kernel
theorem kd_172 : kd 172 = (0, 6) := by decide +kernel
theorem fx_172 : 172 ∈ fixL := by decide +kernel
theorem kd_173 : kd 173 = (3, 360) := by decide +kernel
theorem fx_173 : 173 ∈ fixL := by decide +kernel
theorem kd_174 : kd 174 = (3, 60) := by decide +kernel
theorem fx_174 : 174 ∈ fixL := by decide +kernel
noncomputable def ids (V : Vx) : List Nat := fixL ++ vL V
noncomputable def ct (V : Vx) (σ : Sg) (id : Nat) : va_E := cont V (σ.1 id) (σ.2.1 id) (σ.2.2 id) id
noncomputable def cells (V : Vx) (σ : Sg) : va_W := (ids V).map (fun id => (va V id, ct V σ id))
/-- a field that lives has its rows; nothing made later has a number below 1000 -/
noncomputable def wfd (V : Vx) : Prop := ∀ f ∈ ids V, kd f = (12, 0) → f + 1 ∈ ids V ∧ f + 2 ∈ ids V ∧ f + 3 ∈ ids V ∧ f + 4 ∈ ids V
noncomputable def GH (V : Vx) (σ : Sg) (H : Heap) : Prop := va_P (vD V) vwCl (cells V σ) H ∧ va_D (vA V) (cells V σ) ∧ wfd V
/-- the kinds' names -/
noncomputable def mnm (ci : Nat) : String := match vwCl[ci]? with
  | some (C, _, _) => C
  | none => ""
/-- whether the first kind is the second, or under it -/
noncomputable def msub (ci ct : Nat) : Bool := ci == ct || ct == 4 || (ct == 8 && ci == 6) || (ct == 3 && ci == 7) || (ct == 0 && ci == 10)
/-- what the tables say of the kinds -/
noncomputable def IK (U : State) : Prop := ∀ ci ct, ci ∈ mcs → ct ∈ mcs → ∀ c t : ClassId, U.vm.findClass (mnm ci) = some c → U.vm.findClass (mnm ct) = some t → U.vm.assignable c t = msub ci ct
/-- the class's texts: their places in the pool, the texts, their bytes -/
noncomputable def jIdx : List Nat := [64, 97, 99, 101, 103, 105, 123, 125]
noncomputable def jTx : List String := ["fsgtl", "fast ", "slow ", "gap ", "tire ", "long ", "mkpetd", "<=>"]
noncomputable def jByt : List (List Int32) := [[102, 115, 103, 116, 108], [102, 97, 115, 116, 32], [115, 108, 111, 119, 32], [103, 97, 112, 32], [116, 105, 114, 101, 32], [108, 111, 110, 103, 32], [109, 107, 112, 101, 116, 100], [60, 61, 62]]
noncomputable def jLen : List Nat := [5, 5, 5, 4, 5, 5, 6, 3]
noncomputable def slen (i : Nat) : Nat := jLen.getD i 0
noncomputable def sby (i k : Nat) : Int32 := (jByt.getD i []).getD k 0
/-- what is known of the texts: their objects stand for the numbers from 200 on, their rows of bytes from 300 on -/
noncomputable def SX (V : Vx) (U : State) : Prop := vk_S 8 jLen jByt (fun i => va V (200 + i)) (fun i => va V (300 + i)) (vA V) U U.heap ∧ (∀ i : Nat, i < 8 → vk_R "NineMowers$Field" (jIdx.getD i 0) (jTx.getD i "") (va V (200 + i)) U) ∧ va_Z "java/lang/String" "COMPACT_STRINGS" "Z" (.int 1) (vA V) U U.heap ∧ (va_Z "jdk/internal/util/Preconditions" "SIOOBE_FORMATTER" "Ljava/util/function/BiFunction;" .null (vA V) U U.heap ∨ va_Z "jdk/internal/util/Preconditions" "SIOOBE_FORMATTER" "Ljava/util/function/BiFunction;" (.ref (va V 400)) (vA V) U U.heap)
/-- what else is known stays known, and says what the tables say of the kinds, and of the texts -/
noncomputable def XC (V : Vx) : Prop := (∀ (s t : State), (s.WarmedH t.vm ∨ t.vm = s.vm) → s.heap.size ≤ t.heap.size → (∀ q : Nat, q < s.heap.size → ¬ vA V q → t.heap[q]? = s.heap[q]?) → vX V s → vX V t) ∧ (∀ U, vX V U → IK U ∧ SX V U)
noncomputable def GG (V : Vx) (σ : Sg) (U : State) : Prop := GH V σ U.heap ∧ va_K (vD V) vwCl (tysV V) U ∧ vX V U ∧ XC V
theorem GG_mk {V : Vx} {σ : Sg} {H : Heap} {s t : State} {locs : List Loc} (ht : t.heap = H) (hG : GH V σ H) (hK : va_K (vD V) vwCl (tysV V) s) (hX : vX V s ∧ XC V) (hS : va_S (vA V) s.heap H locs) (hW : s.WarmedH t.vm) : GG V σ t :=
  ⟨by rw [ht]; exact hG, va_K.moved hW.alike hK, hX.2.1 s t (Or.inl hW) (by rw [ht]; exact hS.1) (by rw [ht]; exact hS.2.1) hX.1, hX.2⟩
noncomputable def cv (V : Vx) (v : Value) : Value := match v with
  | .ref a => .ref (va V a)
  | v => v
theorem fxl {V : Vx} {id : Nat} (h : id ∈ fixL) : id ∈ ids V := List.mem_append_left _ h
theorem cell_at {V : Vx} {σ : Sg} {id : Nat} (h : id ∈ ids V) : ∃ q0 : Nat, (cells V σ)[q0]? = some (va V id, ct V σ id) :=
  List.getElem?_of_mem (List.mem_map.mpr ⟨id, h, rfl⟩)
theorem cell_set {V : Vx} {σ σ' : Sg} {id q0 : Nat} {A : Nat → Prop} (hD : va_D A (cells V σ)) (hq : (cells V σ)[q0]? = some (va V id, ct V σ id)) (hm : id ∈ ids V) (ho : ∀ j, j ≠ id → ct V σ' j = ct V σ j) :
    (cells V σ).set q0 (va V id, ct V σ' id) = cells V σ' := by
  obtain ⟨i0, hi0⟩ := List.getElem?_of_mem hm
  have h2 : (cells V σ)[i0]? = some (va V id, ct V σ id) := by simp [cells, List.getElem?_map, hi0]
  have e0 : q0 = i0 := hD.1 q0 i0 _ _ hq h2 rfl
  subst e0
  have hl := (List.getElem?_eq_some_iff.mp hq).1
  apply List.ext_getElem?
  intro j
  by_cases hj : j = q0
  · subst hj
    rw [List.getElem?_set_self hl]
    simp [cells, List.getElem?_map, hi0]
  · rw [List.getElem?_set_ne (Ne.symm hj)]
    simp only [cells, List.getElem?_map]
    cases hb : (ids V)[j]? with
    | none => rfl
    | some b =>
      have hne : b ≠ id := by
        intro e
        subst e
        have h3 : (cells V σ)[j]? = some (va V b, ct V σ b) := by simp [cells, List.getElem?_map, hb]
        exact hj (hD.1 j q0 _ _ h3 h2 rfl)
      simp [ho b hne]
theorem va_D_inj {V : Vx} {σ : Sg} {A : Nat → Prop} (hD : va_D A (cells V σ)) {x y : Nat} (hx : x ∈ ids V) (hy : y ∈ ids V) (h : va V x = va V y) : x = y := by
  obtain ⟨i, hi⟩ := List.getElem?_of_mem hx
  obtain ⟨j, hj⟩ := List.getElem?_of_mem hy
  have h1 : (cells V σ)[i]? = some (va V x, ct V σ x) := by simp [cells, List.getElem?_map, hi]
  have h2 : (cells V σ)[j]? = some (va V y, ct V σ y) := by simp [cells, List.getElem?_map, hj]
  have := hD.1 i j _ _ h1 h2 h
  subst this
  exact Option.some.inj (hi.symm.trans hj)
theorem up_ne {α : Type} (f : Nat → α) {k j : Nat} (v : α) (h : j ≠ k) : va_up f k v j = f j := va_up_ne f v h
theorem ct_sia {V : Vx} {σ : Sg} {a j : Nat} {f : Nat → Int32} (h : j ≠ a) : ct V (sia σ a f) j = ct V σ j := by
  show cont V (va_up σ.1 a f j) _ _ j = _
  rw [va_up_ne _ _ h]; rfl
theorem ct_sla {V : Vx} {σ : Sg} {a j : Nat} {f : Nat → Int64} (h : j ≠ a) : ct V (sla σ a f) j = ct V σ j := by
  show cont V _ (va_up σ.2.1 a f j) _ j = _
  rw [va_up_ne _ _ h]; rfl
theorem ct_sra {V : Vx} {σ : Sg} {a j : Nat} {f : Nat → Option Nat} (h : j ≠ a) : ct V (sra σ a f) j = ct V σ j := by
  show cont V _ _ (va_up σ.2.2 a f j) j = _
  rw [va_up_ne _ _ h]; rfl
theorem ct_i {V : Vx} {σ : Sg} {a t n : Nat} (h : kd a = (t, n)) (ht : t < 3) : ct V σ a = .inl (vC V t, n, .inl (σ.1 a)) := by
  simp [ct, cont, h, ht]
theorem ct_l {V : Vx} {σ : Sg} {a n : Nat} (h : kd a = (3, n)) : ct V σ a = .inl (vC V 3, n, .inr (.inl (σ.2.1 a))) := by
  simp [ct, cont, h]
theorem ct_r {V : Vx} {σ : Sg} {a t n : Nat} (h : kd a = (t, n)) (h1 : 3 < t) (ht : t < 6) : ct V σ a = .inl (vC V t, n, .inr (.inr (.inr (.inr (fun k => (σ.2.2 a k).map (va V)))))) := by
  have h3 : ¬ t < 3 := by omega
  have h4 : ¬ t = 3 := by omega
  simp [ct, cont, h, h3, h4, ht]
theorem ct_t {V : Vx} {σ : Sg} {a n : Nat} (h : kd a = (6, n)) : ct V σ a = .inl (vC V 6, n, .inr (.inr (.inr (.inr (fun k => some (va V (a + 1 + 2 * k))))))) := by
  simp [ct, cont, h]
theorem ct_o {V : Vx} {σ : Sg} {a ci n : Nat} (h : kd a = (10 + ci, n)) : ct V σ a = .inr (ci, flds (va V) a (σ.1 a) (σ.2.2 a) ci) := by
  have h3 : ¬ (10 + ci) < 3 := by omega
  have h4 : ¬ (10 + ci) = 3 := by omega
  have h5 : ¬ (10 + ci) < 6 := by omega
  have h6 : ¬ (10 + ci) = 6 := by omega
  have h7 : 10 + ci - 10 = ci := by omega
  simp only [ct, cont, h, h3, h4, h5, h6, if_false, h7]
theorem flds_at {ad : Nat → Nat} {id ci k c : Nat} {f : Nat → Int32} {r : Nat → Option Nat} (h : tp ci k = some c) : (flds ad id f r ci)[k]? = some (fv ad id f r k c) := by
  unfold tp at h
  unfold flds
  rw [List.getElem?_mapIdx, h]
  rfl
theorem flds_len {ad : Nat → Nat} {id ci k c : Nat} {f : Nat → Int32} {r : Nat → Option Nat} (h : tp ci k = some c) : k < (flds ad id f r ci).length := (List.getElem?_eq_some_iff.mp (flds_at (ad := ad) (id := id) (f := f) (r := r) h)).1
theorem flds_set_i {ad : Nat → Nat} {id ci k : Nat} {f : Nat → Int32} {r : Nat → Option Nat} {v : Int32} (h : tp ci k = some 0) : (flds ad id f r ci).set k (.int v) = flds ad id (upd f k v) r ci := by
  have hl := flds_len (ad := ad) (id := id) (f := f) (r := r) h
  apply List.ext_getElem?
  intro j
  by_cases hj : j = k
  · subst hj
    rw [List.getElem?_set_self hl, flds_at h]
    simp [fv, upd]
  · rw [List.getElem?_set_ne (Ne.symm hj)]
    simp only [flds, List.getElem?_mapIdx]
    cases hb : (tplT.getD ci [])[j]? with
    | none => rfl
    | some b => simp [fv, upd, hj]
theorem flds_set_r {ad : Nat → Nat} {id ci k : Nat} {f : Nat → Int32} {r : Nat → Option Nat} {v : Option Nat} (h : tp ci k = some 1) : (flds ad id f r ci).set k (va_rf (v.map ad)) = flds ad id f (va_up r k v) ci := by
  have hl := flds_len (ad := ad) (id := id) (f := f) (r := r) h
  apply List.ext_getElem?
  intro j
  by_cases hj : j = k
  · subst hj
    rw [List.getElem?_set_self hl, flds_at h]
    simp [fv, va_up]
  · rw [List.getElem?_set_ne (Ne.symm hj)]
    simp only [flds, List.getElem?_mapIdx]
    cases hb : (tplT.getD ci [])[j]? with
    | none => rfl
    | some b => simp [fv, va_up, hj]
/-! THE MACHINE'S POINT, in words of the state -/
noncomputable abbrev Mx : Type := Program × Launch × Env × Room × State × MethodId × Array Value × List Frame × Method × Code × Vx × Nat × (State → Prop)
noncomputable def mN (M : Mx) : Nat := M.2.2.2.2.2.2.2.2.2.2.2.1
noncomputable def mV (M : Mx) : Vx := M.2.2.2.2.2.2.2.2.2.2.1
noncomputable def mL (M : Mx) : Launch := M.2.1
noncomputable def PS (M : Mx) (pc : Nat) (lv : List (Nat × Value)) (st : List Value) (σ : Sg) (kn : Nat × Nat) : Prop := match M with
  | (p, l, e, R, s, m, args, below, meth, c, V, nL, Q) => ∀ (ls : Array Slot) (H : Heap) (locs : List Loc), lv_has ls nL (lv.map (fun q => (q.1, cv V q.2))) → GH V σ H → va_S (vA V) s.heap H locs → W p l e R s m args below meth c H locs kn.1 kn.2 Q (F0 m pc ls (st.map (cv V)))
/-- what holds all through a method's run -/
noncomputable def Cx (M : Mx) (cc : ByteArray) (ret : Option FieldType) (own : String) (Ts : List Cond) (rm : Room) (mc ms : Nat) (Qc : Array Value → State → Outcome → State → Prop) : Prop := match M with
  | (p, _, _, R, s, m, args, below, meth, c, V, nL, Q) => p.tables.exec = Jvm.exec ∧ c.code = cc ∧ c.maxLocals = nL ∧ s.vm.findClass own = some m.cls ∧ (∀ w ∈ Ts, w.before args s = true) ∧ meth.sig.returnType = ret ∧ meth.locks = false ∧ va_K (vD V) vwCl (tysV V) s ∧ R = rm ∧ Q = MQ below Qc args s mc ms (vA V) ∧ wfd V ∧ vX V s ∧ XC V
noncomputable def QI (V : Vx) (Qc : Int32 → Sg → Prop) : Array Value → State → Outcome → State → Prop := va_Qi Qc (fun σ t => GG V σ t) (vA V)
noncomputable def QL (V : Vx) (Qc : Int64 → Sg → Prop) : Array Value → State → Outcome → State → Prop := va_Ql Qc (fun σ t => GG V σ t) (vA V)
noncomputable def QV (V : Vx) (Qc : Sg → Prop) : Array Value → State → Outcome → State → Prop := va_Qv Qc (fun σ t => GG V σ t) (vA V)
noncomputable def QR (V : Vx) (Qc : Nat → Sg → Prop) : Array Value → State → Outcome → State → Prop := va_Qr (fun u : Nat × Sg => Qc u.1 u.2) (fun u a t => a = va V u.1 ∧ GG V u.2 t) (vA V)
/-- a method's contract from the state σ on -/
noncomputable abbrev Ka (l : Launch) (V : Vx) (y : MethodName) (ws : List Cond) (rm : Room) (mc ms : Nat) (as : List Value) (σ : Sg) (Qc : Array Value → State → Outcome → State → Prop) : Prop := Met l y ws rm (va_Pc (as.map (cv V)) (fun U => GG V σ U)) Qc mc ms (vA V)
section Rules
variable {M : Mx} {cc : ByteArray} {ret : Option FieldType} {own : String} {Ts : List Cond} {rm : Room} {mc ms : Nat} {Qc : Array Value → State → Outcome → State → Prop} {pc : Nat} {lv lv' : List (Nat × Value)} {st : List Value} {σ : Sg} {kn : Nat × Nat}
theorem P_iadd (C : Cx M cc ret own Ts rm mc ms Qc) {x y : Int32} (hd : decode cc pc = .ok (.iadd, 1)) (h : PS M (pc + 1) lv (.int (x + y) :: st) σ kn) : PS M pc lv (.int y :: .int x :: st) σ kn := by
  obtain ⟨p, l, e, R, s, m, args, below, meth, c, V, nL, Q⟩ := M
  intro ls H locs hl hG hS
  exact lv_iadd C.1 C.2.1 hd (h ls H locs hl hG hS)
theorem P_isub (C : Cx M cc ret own Ts rm mc ms Qc) {x y : Int32} (hd : decode cc pc = .ok (.isub, 1)) (h : PS M (pc + 1) lv (.int (x - y) :: st) σ kn) : PS M pc lv (.int y :: .int x :: st) σ kn := by
  obtain ⟨p, l, e, R, s, m, args, below, meth, c, V, nL, Q⟩ := M
  intro ls H locs hl hG hS
  exact lv_isub C.1 C.2.1 hd (h ls H locs hl hG hS)
theorem P_imul (C : Cx M cc ret own Ts rm mc ms Qc) {x y : Int32} (hd : decode cc pc = .ok (.imul, 1)) (h : PS M (pc + 1) lv (.int (x * y) :: st) σ kn) : PS M pc lv (.int y :: .int x :: st) σ kn := by
  obtain ⟨p, l, e, R, s, m, args, below, meth, c, V, nL, Q⟩ := M
  intro ls H locs hl hG hS
  exact lv_imul C.1 C.2.1 hd (h ls H locs hl hG hS)
theorem P_iand (C : Cx M cc ret own Ts rm mc ms Qc) {x y : Int32} (hd : decode cc pc = .ok (.iand, 1)) (h : PS M (pc + 1) lv (.int (x &&& y) :: st) σ kn) : PS M pc lv (.int y :: .int x :: st) σ kn := by
  obtain ⟨p, l, e, R, s, m, args, below, meth, c, V, nL, Q⟩ := M
  intro ls H locs hl hG hS
  exact lv_iand C.1 C.2.1 hd (h ls H locs hl hG hS)
theorem P_ior (C : Cx M cc ret own Ts rm mc ms Qc) {x y : Int32} (hd : decode cc pc = .ok (.ior, 1)) (h : PS M (pc + 1) lv (.int (x ||| y) :: st) σ kn) : PS M pc lv (.int y :: .int x :: st) σ kn := by
  obtain ⟨p, l, e, R, s, m, args, below, meth, c, V, nL, Q⟩ := M
  intro ls H locs hl hG hS
  exact lv_ior C.1 C.2.1 hd (h ls H locs hl hG hS)
theorem P_ixor (C : Cx M cc ret own Ts rm mc ms Qc) {x y : Int32} (hd : decode cc pc = .ok (.ixor, 1)) (h : PS M (pc + 1) lv (.int (x ^^^ y) :: st) σ kn) : PS M pc lv (.int y :: .int x :: st) σ kn := by
  obtain ⟨p, l, e, R, s, m, args, below, meth, c, V, nL, Q⟩ := M
  intro ls H locs hl hG hS
  exact lv_ixor C.1 C.2.1 hd (h ls H locs hl hG hS)
theorem P_ishl (C : Cx M cc ret own Ts rm mc ms Qc) {x y : Int32} (hd : decode cc pc = .ok (.ishl, 1)) (h : PS M (pc + 1) lv (.int (x <<< (y &&& 31)) :: st) σ kn) : PS M pc lv (.int y :: .int x :: st) σ kn := by
  obtain ⟨p, l, e, R, s, m, args, below, meth, c, V, nL, Q⟩ := M
  intro ls H locs hl hG hS
  exact lv_ishl C.1 C.2.1 hd (h ls H locs hl hG hS)
theorem P_ishr (C : Cx M cc ret own Ts rm mc ms Qc) {x y : Int32} (hd : decode cc pc = .ok (.ishr, 1)) (h : PS M (pc + 1) lv (.int (x >>> (y &&& 31)) :: st) σ kn) : PS M pc lv (.int y :: .int x :: st) σ kn := by
  obtain ⟨p, l, e, R, s, m, args, below, meth, c, V, nL, Q⟩ := M
  intro ls H locs hl hG hS
  exact lv_ishr C.1 C.2.1 hd (h ls H locs hl hG hS)
theorem P_ineg (C : Cx M cc ret own Ts rm mc ms Qc) {x : Int32} (hd : decode cc pc = .ok (.ineg, 1)) (h : PS M (pc + 1) lv (.int (-x) :: st) σ kn) : PS M pc lv (.int x :: st) σ kn := by
  obtain ⟨p, l, e, R, s, m, args, below, meth, c, V, nL, Q⟩ := M
  intro ls H locs hl hG hS
  exact lv_ineg C.1 C.2.1 hd (h ls H locs hl hG hS)
theorem P_idiv (C : Cx M cc ret own Ts rm mc ms Qc) {x y : Int32} (hd : decode cc pc = .ok (.idiv, 1)) (hne : ¬ y = 0) (h : PS M (pc + 1) lv (.int (x / y) :: st) σ kn) : PS M pc lv (.int y :: .int x :: st) σ kn := by
  obtain ⟨p, l, e, R, s, m, args, below, meth, c, V, nL, Q⟩ := M
  intro ls H locs hl hG hS
  exact lv_idiv C.1 C.2.1 hd hne (h ls H locs hl hG hS)
theorem P_irem (C : Cx M cc ret own Ts rm mc ms Qc) {x y : Int32} (hd : decode cc pc = .ok (.irem, 1)) (hne : ¬ y = 0) (h : PS M (pc + 1) lv (.int (x - x / y * y) :: st) σ kn) : PS M pc lv (.int y :: .int x :: st) σ kn := by
  obtain ⟨p, l, e, R, s, m, args, below, meth, c, V, nL, Q⟩ := M
  intro ls H locs hl hG hS
  exact lv_irem C.1 C.2.1 hd hne (h ls H locs hl hG hS)
theorem P_iconst (C : Cx M cc ret own Ts rm mc ms Qc) {n : Int} {v : Int32} (hd : decode cc pc = .ok (.iconst n, 1)) (hv : Int32.ofInt n = v) (h : PS M (pc + 1) lv (.int v :: st) σ kn) : PS M pc lv (st) σ kn := by
  obtain ⟨p, l, e, R, s, m, args, below, meth, c, V, nL, Q⟩ := M
  intro ls H locs hl hG hS
  exact lv_iconst C.1 C.2.1 hd hv (h ls H locs hl hG hS)
theorem P_bipush (C : Cx M cc ret own Ts rm mc ms Qc) {n : Int} {v : Int32} (hd : decode cc pc = .ok (.bipush n, 2)) (hv : (Int8.ofInt n).toInt32 = v) (h : PS M (pc + 2) lv (.int v :: st) σ kn) : PS M pc lv (st) σ kn := by
  obtain ⟨p, l, e, R, s, m, args, below, meth, c, V, nL, Q⟩ := M
  intro ls H locs hl hG hS
  exact lv_bipush C.1 C.2.1 hd hv (h ls H locs hl hG hS)
theorem P_sipush (C : Cx M cc ret own Ts rm mc ms Qc) {n : Int} {v : Int32} (hd : decode cc pc = .ok (.sipush n, 3)) (hv : (Int16.ofInt n).toInt32 = v) (h : PS M (pc + 3) lv (.int v :: st) σ kn) : PS M pc lv (st) σ kn := by
  obtain ⟨p, l, e, R, s, m, args, below, meth, c, V, nL, Q⟩ := M
  intro ls H locs hl hG hS
  exact lv_sipush C.1 C.2.1 hd hv (h ls H locs hl hG hS)
theorem P_lconst (C : Cx M cc ret own Ts rm mc ms Qc) {n : Fin 2} {v : Int64} (hd : decode cc pc = .ok (.lconst n, 1)) (hv : Int64.ofNat (n : Nat) = v) (h : PS M (pc + 1) lv (.long v :: st) σ kn) : PS M pc lv (st) σ kn := by
  obtain ⟨p, l, e, R, s, m, args, below, meth, c, V, nL, Q⟩ := M
  intro ls H locs hl hG hS
  exact lv_lconst C.1 C.2.1 hd hv (h ls H locs hl hG hS)
theorem P_i2b (C : Cx M cc ret own Ts rm mc ms Qc) {x : Int32} (hd : decode cc pc = .ok (.i2b, 1)) (h : PS M (pc + 1) lv (.int x.toInt8.toInt32 :: st) σ kn) : PS M pc lv (.int x :: st) σ kn := by
  obtain ⟨p, l, e, R, s, m, args, below, meth, c, V, nL, Q⟩ := M
  intro ls H locs hl hG hS
  exact lv_i2b C.1 C.2.1 hd rfl (h ls H locs hl hG hS)
theorem P_i2s (C : Cx M cc ret own Ts rm mc ms Qc) {x : Int32} (hd : decode cc pc = .ok (.i2s, 1)) (h : PS M (pc + 1) lv (.int x.toInt16.toInt32 :: st) σ kn) : PS M pc lv (.int x :: st) σ kn := by
  obtain ⟨p, l, e, R, s, m, args, below, meth, c, V, nL, Q⟩ := M
  intro ls H locs hl hG hS
  exact lv_i2s C.1 C.2.1 hd rfl (h ls H locs hl hG hS)
theorem P_i2c (C : Cx M cc ret own Ts rm mc ms Qc) {x : Int32} (hd : decode cc pc = .ok (.i2c, 1)) (h : PS M (pc + 1) lv (.int (x.toUInt32 % 65536).toInt32 :: st) σ kn) : PS M pc lv (.int x :: st) σ kn := by
  obtain ⟨p, l, e, R, s, m, args, below, meth, c, V, nL, Q⟩ := M
  intro ls H locs hl hG hS
  exact lv_i2c C.1 C.2.1 hd rfl (h ls H locs hl hG hS)
theorem P_i2l (C : Cx M cc ret own Ts rm mc ms Qc) {x : Int32} (hd : decode cc pc = .ok (.i2l, 1)) (h : PS M (pc + 1) lv (.long x.toInt64 :: st) σ kn) : PS M pc lv (.int x :: st) σ kn := by
  obtain ⟨p, l, e, R, s, m, args, below, meth, c, V, nL, Q⟩ := M
  intro ls H locs hl hG hS
  exact lv_i2l C.1 C.2.1 hd rfl (h ls H locs hl hG hS)
theorem P_l2i (C : Cx M cc ret own Ts rm mc ms Qc) {x : Int64} (hd : decode cc pc = .ok (.l2i, 1)) (h : PS M (pc + 1) lv (.int x.toInt32 :: st) σ kn) : PS M pc lv (.long x :: st) σ kn := by
  obtain ⟨p, l, e, R, s, m, args, below, meth, c, V, nL, Q⟩ := M
  intro ls H locs hl hG hS
  exact lv_l2i C.1 C.2.1 hd rfl (h ls H locs hl hG hS)
theorem P_lcmp (C : Cx M cc ret own Ts rm mc ms Qc) {x y : Int64} (hd : decode cc pc = .ok (.lcmp, 1)) (h : PS M (pc + 1) lv (.int (lg_cmp x y) :: st) σ kn) : PS M pc lv (.long y :: .long x :: st) σ kn := by
  obtain ⟨p, l, e, R, s, m, args, below, meth, c, V, nL, Q⟩ := M
  intro ls H locs hl hG hS
  exact W.lcmp C.1 C.2.1 hd (h ls H locs hl hG hS)
theorem P_land (C : Cx M cc ret own Ts rm mc ms Qc) {x y : Int64} (hd : decode cc pc = .ok (.land, 1)) (h : PS M (pc + 1) lv (.long (x &&& y) :: st) σ kn) : PS M pc lv (.long y :: .long x :: st) σ kn := by
  obtain ⟨p, l, e, R, s, m, args, below, meth, c, V, nL, Q⟩ := M
  intro ls H locs hl hG hS
  exact lv_land C.1 C.2.1 hd (h ls H locs hl hG hS)
theorem P_lor (C : Cx M cc ret own Ts rm mc ms Qc) {x y : Int64} (hd : decode cc pc = .ok (.lor, 1)) (h : PS M (pc + 1) lv (.long (x ||| y) :: st) σ kn) : PS M pc lv (.long y :: .long x :: st) σ kn := by
  obtain ⟨p, l, e, R, s, m, args, below, meth, c, V, nL, Q⟩ := M
  intro ls H locs hl hG hS
  exact lv_lor C.1 C.2.1 hd (h ls H locs hl hG hS)
theorem P_lshl (C : Cx M cc ret own Ts rm mc ms Qc) {x : Int64} {y : Int32} (hd : decode cc pc = .ok (.lshl, 1)) (h : PS M (pc + 1) lv (.long (x <<< (y.toInt64 &&& 63)) :: st) σ kn) : PS M pc lv (.int y :: .long x :: st) σ kn := by
  obtain ⟨p, l, e, R, s, m, args, below, meth, c, V, nL, Q⟩ := M
  intro ls H locs hl hG hS
  exact lv_lshl C.1 C.2.1 hd rfl (h ls H locs hl hG hS)
theorem cv_cat (V : Vx) (v : Value) : (cv V v).category = v.category := by cases v <;> rfl
theorem P_dup (C : Cx M cc ret own Ts rm mc ms Qc) {x : Value} (hd : decode cc pc = .ok (.dup, 1)) (hx : x.category = 1) (h : PS M (pc + 1) lv (x :: x :: st) σ kn) : PS M pc lv (x :: st) σ kn := by
  obtain ⟨p, l, e, R, s, m, args, below, meth, c, V, nL, Q⟩ := M
  intro ls H locs hl hG hS
  exact lv_dup C.1 C.2.1 hd ((cv_cat V x).trans hx) (h ls H locs hl hG hS)
theorem P_dup2 (C : Cx M cc ret own Ts rm mc ms Qc) {x y : Value} (hd : decode cc pc = .ok (.dup2, 1)) (hx : x.category = 1) (hy : y.category = 1) (h : PS M (pc + 1) lv (x :: y :: x :: y :: st) σ kn) : PS M pc lv (x :: y :: st) σ kn := by
  obtain ⟨p, l, e, R, s, m, args, below, meth, c, V, nL, Q⟩ := M
  intro ls H locs hl hG hS
  exact lv_dup2_11 C.1 C.2.1 hd ((cv_cat V x).trans hx) ((cv_cat V y).trans hy) (h ls H locs hl hG hS)
theorem P_pop (C : Cx M cc ret own Ts rm mc ms Qc) {x : Value} (hd : decode cc pc = .ok (.pop, 1)) (hx : x.category = 1) (h : PS M (pc + 1) lv (st) σ kn) : PS M pc lv (x :: st) σ kn := by
  obtain ⟨p, l, e, R, s, m, args, below, meth, c, V, nL, Q⟩ := M
  intro ls H locs hl hG hS
  exact lv_pop C.1 C.2.1 hd ((cv_cat V x).trans hx) (h ls H locs hl hG hS)
theorem P_pop2 (C : Cx M cc ret own Ts rm mc ms Qc) {x : Value} (hd : decode cc pc = .ok (.pop2, 1)) (hx : x.category = 2) (h : PS M (pc + 1) lv (st) σ kn) : PS M pc lv (x :: st) σ kn := by
  obtain ⟨p, l, e, R, s, m, args, below, meth, c, V, nL, Q⟩ := M
  intro ls H locs hl hG hS
  exact lv_pop2_2 C.1 C.2.1 hd ((cv_cat V x).trans hx) (h ls H locs hl hG hS)
theorem P_null (C : Cx M cc ret own Ts rm mc ms Qc) (hd : decode cc pc = .ok (.aconst_null, 1)) (h : PS M (pc + 1) lv (.null :: st) σ kn) : PS M pc lv (st) σ kn := by
  obtain ⟨p, l, e, R, s, m, args, below, meth, c, V, nL, Q⟩ := M
  intro ls H locs hl hG hS
  exact lv_null C.1 C.2.1 hd (h ls H locs hl hG hS)
theorem P_ldc (C : Cx M cc ret own Ts rm mc ms Qc) {n : Nat} {v : Int32} (hw : Cond.constant own n v ∈ Ts) (hd : decode cc pc = .ok (.ldc n, 2)) (h : PS M (pc + 2) lv (.int v :: st) σ kn) : PS M pc lv st σ kn := by
  obtain ⟨p, l, e, R, s, m, args, below, meth, c, V, nL, Q⟩ := M
  intro ls H locs hl hG hS
  exact lv_ldc C.1 C.2.1 C.2.2.2.1 (C.2.2.2.2.1 _ hw) hd (h ls H locs hl hG hS)
theorem P_ldcw (C : Cx M cc ret own Ts rm mc ms Qc) {n : Nat} {v : Int32} (hw : Cond.constant own n v ∈ Ts) (hd : decode cc pc = .ok (.ldc_w n, 3)) (h : PS M (pc + 3) lv (.int v :: st) σ kn) : PS M pc lv st σ kn := by
  obtain ⟨p, l, e, R, s, m, args, below, meth, c, V, nL, Q⟩ := M
  intro ls H locs hl hG hS
  exact lv_ldcw C.1 C.2.1 C.2.2.2.1 (C.2.2.2.2.1 _ hw) hd (h ls H locs hl hG hS)
theorem P_ldc2 (C : Cx M cc ret own Ts rm mc ms Qc) {n : Nat} {v : Int64} (hw : Cond.constantLong own n v ∈ Ts) (hd : decode cc pc = .ok (.ldc2_w n, 3)) (h : PS M (pc + 3) lv (.long v :: st) σ kn) : PS M pc lv st σ kn := by
  obtain ⟨p, l, e, R, s, m, args, below, meth, c, V, nL, Q⟩ := M
  intro ls H locs hl hG hS
  exact lv_ldc2 C.1 C.2.1 C.2.2.2.1 (C.2.2.2.2.1 _ hw) hd (h ls H locs hl hG hS)
theorem lmap {V : Vx} {lv : List (Nat × Value)} {j i : Nat} {v : Value} (h : lv[j]? = some (i, v)) : (lv.map (fun q => (q.1, cv V q.2)))[j]? = some (i, cv V v) := by rw [List.getElem?_map, h]; rfl
noncomputable def stv (lv : List (Nat × Value)) (i : Nat) (v : Value) : List (Nat × Value) := (i, v) :: lv.filter (fun q => !(q.1 == i) && !(q.1 + 1 == i && q.2.category == 2))
theorem stv_map {V : Vx} {lv lv' : List (Nat × Value)} {i : Nat} {v : Value} (h : stv lv i v = lv') : (i, cv V v) :: (lv.map (fun q => (q.1, cv V q.2))).filter (fun q => !(q.1 == i) && !(q.1 + 1 == i && q.2.category == 2)) = lv'.map (fun q => (q.1, cv V q.2)) := by
  subst h
  simp only [stv, List.map_cons, List.filter_map]
  congr 2
  apply List.filter_congr
  intro q _
  simp [cv_cat]
theorem P_iload_n (C : Cx M cc ret own Ts rm mc ms Qc) {k : Fin 4} {x : Int32} (hd : decode cc pc = .ok (.iload_n k, 1)) (j : Nat) (hj : lv[j]? = some ((k : Nat), .int x)) (h : PS M (pc + 1) lv (.int x :: st) σ kn) : PS M pc lv st σ kn := by
  obtain ⟨p, l, e, R, s, m, args, below, meth, c, V, nL, Q⟩ := M
  intro ls H locs hl hG hS
  exact lv_iload_n C.1 C.2.1 hd rfl (lv_at hl j (lmap hj)) (h ls H locs hl hG hS)
theorem P_iload (C : Cx M cc ret own Ts rm mc ms Qc) {k : Nat} {x : Int32} (hd : decode cc pc = .ok (.iload k, 2)) (j : Nat) (hj : lv[j]? = some (k, .int x)) (h : PS M (pc + 2) lv (.int x :: st) σ kn) : PS M pc lv st σ kn := by
  obtain ⟨p, l, e, R, s, m, args, below, meth, c, V, nL, Q⟩ := M
  intro ls H locs hl hG hS
  exact lv_iload C.1 C.2.1 hd (lv_at hl j (lmap hj)) (h ls H locs hl hG hS)
theorem P_istore_n (C : Cx M cc ret own Ts rm mc ms Qc) {k : Fin 4} {x : Int32} (hd : decode cc pc = .ok (.istore_n k, 1)) (hn : (k : Nat) < mN M) (hl' : stv lv (k : Nat) (.int x) = lv') (h : PS M (pc + 1) lv' st σ kn) : PS M pc lv (.int x :: st) σ kn := by
  obtain ⟨p, l, e, R, s, m, args, below, meth, c, V, nL, Q⟩ := M
  intro ls H locs hl hG hS
  exact lv_istore_n C.1 C.2.1 hd rfl hl hn (stv_map hl') (fun ls hl => h ls H locs hl hG hS)
theorem P_istore (C : Cx M cc ret own Ts rm mc ms Qc) {k : Nat} {x : Int32} (hd : decode cc pc = .ok (.istore k, 2)) (hn : k < mN M) (hl' : stv lv k (.int x) = lv') (h : PS M (pc + 2) lv' st σ kn) : PS M pc lv (.int x :: st) σ kn := by
  obtain ⟨p, l, e, R, s, m, args, below, meth, c, V, nL, Q⟩ := M
  intro ls H locs hl hG hS
  exact lv_istore C.1 C.2.1 hd hl hn (stv_map hl') (fun ls hl => h ls H locs hl hG hS)
theorem P_aload_n (C : Cx M cc ret own Ts rm mc ms Qc) {k : Fin 4} {x : Nat} (hd : decode cc pc = .ok (.aload_n k, 1)) (j : Nat) (hj : lv[j]? = some ((k : Nat), .ref x)) (h : PS M (pc + 1) lv (.ref x :: st) σ kn) : PS M pc lv st σ kn := by
  obtain ⟨p, l, e, R, s, m, args, below, meth, c, V, nL, Q⟩ := M
  intro ls H locs hl hG hS
  exact lv_aload_n C.1 C.2.1 hd rfl (lv_at hl j (lmap hj)) (h ls H locs hl hG hS)
theorem P_aload (C : Cx M cc ret own Ts rm mc ms Qc) {k : Nat} {x : Nat} (hd : decode cc pc = .ok (.aload k, 2)) (j : Nat) (hj : lv[j]? = some (k, .ref x)) (h : PS M (pc + 2) lv (.ref x :: st) σ kn) : PS M pc lv st σ kn := by
  obtain ⟨p, l, e, R, s, m, args, below, meth, c, V, nL, Q⟩ := M
  intro ls H locs hl hG hS
  exact lv_aload C.1 C.2.1 hd (lv_at hl j (lmap hj)) (h ls H locs hl hG hS)
theorem P_astore_n (C : Cx M cc ret own Ts rm mc ms Qc) {k : Fin 4} {x : Nat} (hd : decode cc pc = .ok (.astore_n k, 1)) (hn : (k : Nat) < mN M) (hl' : stv lv (k : Nat) (.ref x) = lv') (h : PS M (pc + 1) lv' st σ kn) : PS M pc lv (.ref x :: st) σ kn := by
  obtain ⟨p, l, e, R, s, m, args, below, meth, c, V, nL, Q⟩ := M
  intro ls H locs hl hG hS
  exact lv_astore_n C.1 C.2.1 hd rfl hl hn (stv_map hl') (fun ls hl => h ls H locs hl hG hS)
theorem P_astore (C : Cx M cc ret own Ts rm mc ms Qc) {k : Nat} {x : Nat} (hd : decode cc pc = .ok (.astore k, 2)) (hn : k < mN M) (hl' : stv lv k (.ref x) = lv') (h : PS M (pc + 2) lv' st σ kn) : PS M pc lv (.ref x :: st) σ kn := by
  obtain ⟨p, l, e, R, s, m, args, below, meth, c, V, nL, Q⟩ := M
  intro ls H locs hl hG hS
  exact lv_astore C.1 C.2.1 hd hl hn (stv_map hl') (fun ls hl => h ls H locs hl hG hS)
theorem P_lload_n (C : Cx M cc ret own Ts rm mc ms Qc) {k : Fin 4} {x : Int64} (hd : decode cc pc = .ok (.lload_n k, 1)) (j : Nat) (hj : lv[j]? = some ((k : Nat), .long x)) (h : PS M (pc + 1) lv (.long x :: st) σ kn) : PS M pc lv st σ kn := by
  obtain ⟨p, l, e, R, s, m, args, below, meth, c, V, nL, Q⟩ := M
  intro ls H locs hl hG hS
  exact lv_lload_n C.1 C.2.1 hd rfl (lv_at hl j (lmap hj)) (h ls H locs hl hG hS)
theorem P_iinc (C : Cx M cc ret own Ts rm mc ms Qc) {i : Nat} {n : Int} {x v : Int32} (hd : decode cc pc = .ok (.iinc i n, 3)) (j : Nat) (hj : lv[j]? = some (i, .int x)) (hv : x + Int32.ofInt n = v) (hn : i < mN M) (hl' : stv lv i (.int v) = lv') (h : PS M (pc + 3) lv' st σ kn) : PS M pc lv st σ kn := by
  obtain ⟨p, l, e, R, s, m, args, below, meth, c, V, nL, Q⟩ := M
  intro ls H locs hl hG hS
  exact lv_iinc C.1 C.2.1 hd hl (lmap hj) hv hn (stv_map hl') (fun ls hl => h ls H locs hl hG hS)
theorem pick_map (V : Vx) (lv : List (Nat × Value)) (ks : List Nat) : lv_pick (lv.map (fun q => (q.1, cv V q.2))) ks = (lv_pick lv ks).map (fun q => (q.1, cv V q.2)) := by
  induction ks with
  | nil => rfl
  | cons k ks ih =>
    unfold lv_pick at ih ⊢
    rw [List.filterMap_cons, List.filterMap_cons, List.getElem?_map, ih]
    cases lv[k]? <;> rfl
/-- fewer locals -/
theorem P_sub (ks : List Nat) (hl' : lv_pick lv ks = lv') (h : PS M pc lv' st σ kn) : PS M pc lv st σ kn := by
  obtain ⟨p, l, e, R, s, m, args, below, meth, c, V, nL, Q⟩ := M
  intro ls H locs hl hG hS
  exact h ls H locs (lv_sub hl ks (by rw [pick_map, hl'])) hG hS
theorem P_goto (C : Cx M cc ret own Ts rm mc ms Qc) {off : Int} {tgt : Nat} (hd : decode cc pc = .ok (.goto off, 3)) (ht : (pc : Int) + off = (tgt : Int)) (h : PS M tgt lv st σ kn) : PS M pc lv st σ kn := by
  obtain ⟨p, l, e, R, s, m, args, below, meth, c, V, nL, Q⟩ := M
  intro ls H locs hl hG hS
  exact lv_goto C.1 C.2.1 hd ht (h ls H locs hl hG hS)
theorem P_if_eq (C : Cx M cc ret own Ts rm mc ms Qc) {x : Int32} {off : Int} {tgt : Nat} (hd : decode cc pc = .ok (.ifCond .eq off, 3)) (ht : (pc : Int) + off = (tgt : Int)) (kt : x = 0 → PS M tgt lv st σ kn) (kf : ¬ x = 0 → PS M (pc + 3) lv st σ kn) : PS M pc lv (.int x :: st) σ kn := by
  obtain ⟨p, l, e, R, s, m, args, below, meth, c, V, nL, Q⟩ := M
  intro ls H locs hl hG hS
  exact lv_if_eq C.1 C.2.1 hd ht (fun q => kt q ls H locs hl hG hS) (fun q => kf q ls H locs hl hG hS)
theorem P_if_ne (C : Cx M cc ret own Ts rm mc ms Qc) {x : Int32} {off : Int} {tgt : Nat} (hd : decode cc pc = .ok (.ifCond .ne off, 3)) (ht : (pc : Int) + off = (tgt : Int)) (kt : ¬ x = 0 → PS M tgt lv st σ kn) (kf : x = 0 → PS M (pc + 3) lv st σ kn) : PS M pc lv (.int x :: st) σ kn := by
  obtain ⟨p, l, e, R, s, m, args, below, meth, c, V, nL, Q⟩ := M
  intro ls H locs hl hG hS
  exact lv_if_ne C.1 C.2.1 hd ht (fun q => kt q ls H locs hl hG hS) (fun q => kf q ls H locs hl hG hS)
theorem P_if_lt (C : Cx M cc ret own Ts rm mc ms Qc) {x : Int32} {off : Int} {tgt : Nat} (hd : decode cc pc = .ok (.ifCond .lt off, 3)) (ht : (pc : Int) + off = (tgt : Int)) (kt : x < 0 → PS M tgt lv st σ kn) (kf : ¬ x < 0 → PS M (pc + 3) lv st σ kn) : PS M pc lv (.int x :: st) σ kn := by
  obtain ⟨p, l, e, R, s, m, args, below, meth, c, V, nL, Q⟩ := M
  intro ls H locs hl hG hS
  exact lv_if_lt C.1 C.2.1 hd ht (fun q => kt q ls H locs hl hG hS) (fun q => kf q ls H locs hl hG hS)
theorem P_if_ge (C : Cx M cc ret own Ts rm mc ms Qc) {x : Int32} {off : Int} {tgt : Nat} (hd : decode cc pc = .ok (.ifCond .ge off, 3)) (ht : (pc : Int) + off = (tgt : Int)) (kt : 0 ≤ x → PS M tgt lv st σ kn) (kf : ¬ 0 ≤ x → PS M (pc + 3) lv st σ kn) : PS M pc lv (.int x :: st) σ kn := by
  obtain ⟨p, l, e, R, s, m, args, below, meth, c, V, nL, Q⟩ := M
  intro ls H locs hl hG hS
  exact lv_if_ge C.1 C.2.1 hd ht (fun q => kt q ls H locs hl hG hS) (fun q => kf q ls H locs hl hG hS)
theorem P_if_gt (C : Cx M cc ret own Ts rm mc ms Qc) {x : Int32} {off : Int} {tgt : Nat} (hd : decode cc pc = .ok (.ifCond .gt off, 3)) (ht : (pc : Int) + off = (tgt : Int)) (kt : 0 < x → PS M tgt lv st σ kn) (kf : ¬ 0 < x → PS M (pc + 3) lv st σ kn) : PS M pc lv (.int x :: st) σ kn := by
  obtain ⟨p, l, e, R, s, m, args, below, meth, c, V, nL, Q⟩ := M
  intro ls H locs hl hG hS
  exact lv_if_gt C.1 C.2.1 hd ht (fun q => kt q ls H locs hl hG hS) (fun q => kf q ls H locs hl hG hS)
theorem P_if_le (C : Cx M cc ret own Ts rm mc ms Qc) {x : Int32} {off : Int} {tgt : Nat} (hd : decode cc pc = .ok (.ifCond .le off, 3)) (ht : (pc : Int) + off = (tgt : Int)) (kt : x ≤ 0 → PS M tgt lv st σ kn) (kf : ¬ x ≤ 0 → PS M (pc + 3) lv st σ kn) : PS M pc lv (.int x :: st) σ kn := by
  obtain ⟨p, l, e, R, s, m, args, below, meth, c, V, nL, Q⟩ := M
  intro ls H locs hl hG hS
  exact lv_if_le C.1 C.2.1 hd ht (fun q => kt q ls H locs hl hG hS) (fun q => kf q ls H locs hl hG hS)
theorem P_icmp_eq (C : Cx M cc ret own Ts rm mc ms Qc) {x y : Int32} {off : Int} {tgt : Nat} (hd : decode cc pc = .ok (.if_icmp .eq off, 3)) (ht : (pc : Int) + off = (tgt : Int)) (kt : x = y → PS M tgt lv st σ kn) (kf : ¬ x = y → PS M (pc + 3) lv st σ kn) : PS M pc lv (.int y :: .int x :: st) σ kn := by
  obtain ⟨p, l, e, R, s, m, args, below, meth, c, V, nL, Q⟩ := M
  intro ls H locs hl hG hS
  exact lv_icmp_eq C.1 C.2.1 hd ht (fun q => kt q ls H locs hl hG hS) (fun q => kf q ls H locs hl hG hS)
theorem P_icmp_ne (C : Cx M cc ret own Ts rm mc ms Qc) {x y : Int32} {off : Int} {tgt : Nat} (hd : decode cc pc = .ok (.if_icmp .ne off, 3)) (ht : (pc : Int) + off = (tgt : Int)) (kt : ¬ x = y → PS M tgt lv st σ kn) (kf : x = y → PS M (pc + 3) lv st σ kn) : PS M pc lv (.int y :: .int x :: st) σ kn := by
  obtain ⟨p, l, e, R, s, m, args, below, meth, c, V, nL, Q⟩ := M
  intro ls H locs hl hG hS
  exact lv_icmp_ne C.1 C.2.1 hd ht (fun q => kt q ls H locs hl hG hS) (fun q => kf q ls H locs hl hG hS)
theorem P_icmp_lt (C : Cx M cc ret own Ts rm mc ms Qc) {x y : Int32} {off : Int} {tgt : Nat} (hd : decode cc pc = .ok (.if_icmp .lt off, 3)) (ht : (pc : Int) + off = (tgt : Int)) (kt : x < y → PS M tgt lv st σ kn) (kf : ¬ x < y → PS M (pc + 3) lv st σ kn) : PS M pc lv (.int y :: .int x :: st) σ kn := by
  obtain ⟨p, l, e, R, s, m, args, below, meth, c, V, nL, Q⟩ := M
  intro ls H locs hl hG hS
  exact lv_icmp_lt C.1 C.2.1 hd ht (fun q => kt q ls H locs hl hG hS) (fun q => kf q ls H locs hl hG hS)
theorem P_icmp_ge (C : Cx M cc ret own Ts rm mc ms Qc) {x y : Int32} {off : Int} {tgt : Nat} (hd : decode cc pc = .ok (.if_icmp .ge off, 3)) (ht : (pc : Int) + off = (tgt : Int)) (kt : y ≤ x → PS M tgt lv st σ kn) (kf : ¬ y ≤ x → PS M (pc + 3) lv st σ kn) : PS M pc lv (.int y :: .int x :: st) σ kn := by
  obtain ⟨p, l, e, R, s, m, args, below, meth, c, V, nL, Q⟩ := M
  intro ls H locs hl hG hS
  exact lv_icmp_ge C.1 C.2.1 hd ht (fun q => kt q ls H locs hl hG hS) (fun q => kf q ls H locs hl hG hS)
theorem P_icmp_gt (C : Cx M cc ret own Ts rm mc ms Qc) {x y : Int32} {off : Int} {tgt : Nat} (hd : decode cc pc = .ok (.if_icmp .gt off, 3)) (ht : (pc : Int) + off = (tgt : Int)) (kt : y < x → PS M tgt lv st σ kn) (kf : ¬ y < x → PS M (pc + 3) lv st σ kn) : PS M pc lv (.int y :: .int x :: st) σ kn := by
  obtain ⟨p, l, e, R, s, m, args, below, meth, c, V, nL, Q⟩ := M
  intro ls H locs hl hG hS
  exact lv_icmp_gt C.1 C.2.1 hd ht (fun q => kt q ls H locs hl hG hS) (fun q => kf q ls H locs hl hG hS)
theorem P_icmp_le (C : Cx M cc ret own Ts rm mc ms Qc) {x y : Int32} {off : Int} {tgt : Nat} (hd : decode cc pc = .ok (.if_icmp .le off, 3)) (ht : (pc : Int) + off = (tgt : Int)) (kt : x ≤ y → PS M tgt lv st σ kn) (kf : ¬ x ≤ y → PS M (pc + 3) lv st σ kn) : PS M pc lv (.int y :: .int x :: st) σ kn := by
  obtain ⟨p, l, e, R, s, m, args, below, meth, c, V, nL, Q⟩ := M
  intro ls H locs hl hG hS
  exact lv_icmp_le C.1 C.2.1 hd ht (fun q => kt q ls H locs hl hG hS) (fun q => kf q ls H locs hl hG hS)
theorem P_ifnull (C : Cx M cc ret own Ts rm mc ms Qc) {x : Nat} {off : Int} (hd : decode cc pc = .ok (.ifnull off, 3)) (h : PS M (pc + 3) lv st σ kn) : PS M pc lv (.ref x :: st) σ kn := by
  obtain ⟨p, l, e, R, s, m, args, below, meth, c, V, nL, Q⟩ := M
  intro ls H locs hl hG hS
  exact lv_ifnull C.1 C.2.1 hd (h ls H locs hl hG hS)
theorem P_ifnullN (C : Cx M cc ret own Ts rm mc ms Qc) {off : Int} {tgt : Nat} (hd : decode cc pc = .ok (.ifnull off, 3)) (ht : (pc : Int) + off = (tgt : Int)) (h : PS M tgt lv st σ kn) : PS M pc lv (.null :: st) σ kn := by
  obtain ⟨p, l, e, R, s, m, args, below, meth, c, V, nL, Q⟩ := M
  intro ls H locs hl hG hS
  exact lv_ifnullN C.1 C.2.1 hd ht (h ls H locs hl hG hS)
theorem P_ifnonnull (C : Cx M cc ret own Ts rm mc ms Qc) {x : Nat} {off : Int} {tgt : Nat} (hd : decode cc pc = .ok (.ifnonnull off, 3)) (ht : (pc : Int) + off = (tgt : Int)) (h : PS M tgt lv st σ kn) : PS M pc lv (.ref x :: st) σ kn := by
  obtain ⟨p, l, e, R, s, m, args, below, meth, c, V, nL, Q⟩ := M
  intro ls H locs hl hG hS
  exact lv_ifnonnull C.1 C.2.1 hd ht (h ls H locs hl hG hS)
theorem P_ifnonnullN (C : Cx M cc ret own Ts rm mc ms Qc) {off : Int} (hd : decode cc pc = .ok (.ifnonnull off, 3)) (h : PS M (pc + 3) lv st σ kn) : PS M pc lv (.null :: st) σ kn := by
  obtain ⟨p, l, e, R, s, m, args, below, meth, c, V, nL, Q⟩ := M
  intro ls H locs hl hG hS
  exact lv_ifnonnullN C.1 C.2.1 hd (h ls H locs hl hG hS)
theorem P_tsw (C : Cx M cc ret own Ts rm mc ms Qc) {dflt lo hi : Int} {offs : Array Int} {len : Nat} {x : Int32} (hd : decode cc pc = .ok (.tableswitch dflt lo hi offs, len)) (tgt : Nat) (ht : (pc : Int) + dflt = (tgt : Int)) (ho : x.toInt < lo ∨ hi < x.toInt → PS M tgt lv st σ kn) (hsz : hi - lo + 1 = offs.size)
    (hin : ∀ (i : Nat) (off : Int), offs[i]? = some off → x.toInt = lo + i → PS M ((pc : Int) + off).toNat lv st σ kn ∧ 0 ≤ (pc : Int) + off) : PS M pc lv (.int x :: st) σ kn := by
  obtain ⟨p, l, e, R, s, m, args, below, meth, c, V, nL, Q⟩ := M
  intro ls H locs hl hG hS
  by_cases h : x.toInt < lo ∨ hi < x.toInt
  · exact lv_tableOut C.1 C.2.1 hd h ht (ho h ls H locs hl hG hS)
  · have h1 : ¬ x.toInt < lo := fun q => h (Or.inl q)
    have h2 : ¬ hi < x.toInt := fun q => h (Or.inr q)
    have h3 : (x.toInt - lo).toNat < offs.size := by omega
    obtain ⟨k1, k2⟩ := hin (x.toInt - lo).toNat _ (Array.getElem?_eq_getElem h3) (by omega)
    exact lv_tableIn C.1 C.2.1 hd h1 h2 (Array.getElem?_eq_getElem h3) (Int.toNat_of_nonneg k2).symm (k1 ls H locs hl hG hS)
theorem P_lsw (C : Cx M cc ret own Ts rm mc ms Qc) {dflt : Int} {ps : Array (Int × Int)} {len : Nat} {x : Int32} (hd : decode cc pc = .ok (.lookupswitch dflt ps, len)) (hp : (ps.toList.zip (ps.toList.drop 1)).all (fun (a, next) => a.1 < next.1) = true)
    (hin : ∀ (off : Int), Op.lookupswitch.offset ps.toList dflt x.toInt = off → PS M ((pc : Int) + off).toNat lv st σ kn ∧ 0 ≤ (pc : Int) + off) : PS M pc lv (.int x :: st) σ kn := by
  obtain ⟨p, l, e, R, s, m, args, below, meth, c, V, nL, Q⟩ := M
  intro ls H locs hl hG hS
  obtain ⟨k1, k2⟩ := hin _ rfl
  exact lv_lookup C.1 C.2.1 hd hp rfl (Int.toNat_of_nonneg k2).symm (k1 ls H locs hl hG hS)
/-- a read of the field k of kind ci is linked at the pool's place idx, by the name of the class rn -/
noncomputable def FA (own : String) (Ts : List Cond) (idx ci k : Nat) (rn : String) : Prop := match vwCl[ci]? with
  | some (C, T, N) => k < N ∧ (∀ w ∈ u_ws C T N, w ∈ Ts) ∧ Cond.fieldLink own idx rn (T k).2.1 (T k).2.2.1 ∈ Ts ∧ (rn = (T k).1 ∨ Cond.sameField rn (T k).1 (T k).2.1 (T k).2.2.1 ∈ Ts)
  | none => False
theorem P_get0 (C : Cx M cc ret own Ts rm mc ms Qc) {idx ci k n id c : Nat} {rn : String} (hf : FA own Ts idx ci k rn) (hk : kd id = (10 + ci, n)) (ht : tp ci k = some c) (hi : id ∈ ids (mV M)) {v : Value} (hv : fv (va (mV M)) id (σ.1 id) (σ.2.2 id) k c = cv (mV M) v) (hd : decode cc pc = .ok (.getfield idx, 3)) (h : PS M (pc + 3) lv (v :: st) σ kn) : PS M pc lv (.ref id :: st) σ kn := by
  obtain ⟨p, l, e, R, s, m, args, below, meth, c, V, nL, Q⟩ := M
  intro ls H locs hl hG hS
  obtain ⟨q0, hq⟩ := cell_at (V := V) hi
  rw [ct_o hk] at hq
  unfold FA at hf
  cases hcl : vwCl[ci]? with
  | none => rw [hcl] at hf; exact hf.elim
  | some r =>
    obtain ⟨Cn, T, N⟩ := r
    rw [hcl] at hf
    obtain ⟨f1, f2, f3, f4⟩ := hf
    refine va_get (D := vD V) (v := cv V v) C.1 C.2.1 C.2.2.2.2.1 f2 C.2.2.2.1 C.2.2.2.2.2.2.2.1 hG.1 q0 hq hcl k f1 (C.2.2.2.2.1 _ f3) ?_ ((flds_at ht).trans (congrArg some hv)) hd (h ls H locs hl hG hS)
    rcases f4 with f4 | f4
    · subst f4; exact fun _ h => h
    · exact u_same (C.2.2.2.2.1 _ f4)
theorem P_getI (C : Cx M cc ret own Ts rm mc ms Qc) {idx ci k n id : Nat} {rn : String} (hf : FA own Ts idx ci k rn) (hk : kd id = (10 + ci, n)) (ht : tp ci k = some 0) (hi : id ∈ ids (mV M)) (hd : decode cc pc = .ok (.getfield idx, 3)) (h : PS M (pc + 3) lv (.int (gi σ id k) :: st) σ kn) : PS M pc lv (.ref id :: st) σ kn :=
  P_get0 C hf hk ht hi rfl hd h
theorem P_getS (C : Cx M cc ret own Ts rm mc ms Qc) {idx ci k n id d e : Nat} {rn : String} (hf : FA own Ts idx ci k rn) (hk : kd id = (10 + ci, n)) (ht : tp ci k = some (d + 2)) (hi : id ∈ ids (mV M)) (he : id + d = e) (hd : decode cc pc = .ok (.getfield idx, 3)) (h : PS M (pc + 3) lv (.ref e :: st) σ kn) : PS M pc lv (.ref id :: st) σ kn :=
  P_get0 C hf hk ht hi (by subst he; simp [fv, cv]) hd h
theorem P_getD (C : Cx M cc ret own Ts rm mc ms Qc) {idx ci k n id μ : Nat} {rn : String} (hf : FA own Ts idx ci k rn) (hk : kd id = (10 + ci, n)) (ht : tp ci k = some 1) (hi : id ∈ ids (mV M)) (hr : gr σ id k = some μ) (hd : decode cc pc = .ok (.getfield idx, 3)) (h : PS M (pc + 3) lv (.ref μ :: st) σ kn) : PS M pc lv (.ref id :: st) σ kn :=
  P_get0 C hf hk ht hi (by have hr : σ.2.2 id k = some μ := hr; simp [fv, cv, hr, va_rf]) hd h
theorem P_getN (C : Cx M cc ret own Ts rm mc ms Qc) {idx ci k n id : Nat} {rn : String} (hf : FA own Ts idx ci k rn) (hk : kd id = (10 + ci, n)) (ht : tp ci k = some 1) (hi : id ∈ ids (mV M)) (hr : gr σ id k = none) (hd : decode cc pc = .ok (.getfield idx, 3)) (h : PS M (pc + 3) lv (.null :: st) σ kn) : PS M pc lv (.ref id :: st) σ kn :=
  P_get0 C hf hk ht hi (by have hr : σ.2.2 id k = none := hr; simp [fv, cv, hr, va_rf]) hd h
noncomputable def PA (own : String) (Ts : List Cond) (idx ci k : Nat) (rn : String) (ty : FieldType) : Prop := match vwCl[ci]? with
  | some (C, T, N) => k < N ∧ (∀ w ∈ u_ws C T N, w ∈ Ts) ∧ Cond.fieldLink own idx rn (T k).2.1 (T k).2.2.1 ∈ Ts ∧ rn = (T k).1 ∧ (T k).2.2.2 = false ∧ parseFieldDescriptor (T k).2.2.1 = some ty ∧ (∃ ty0 : Nat → FieldType, ∀ k, k < N → parseFieldDescriptor (T k).2.2.1 = some (ty0 k)) ∧ (∀ a, a < N → ∀ b, b < N → a ≠ b → (T a).2.1 ≠ (T b).2.1)
  | none => False
theorem P_put0 (C : Cx M cc ret own Ts rm mc ms Qc) {idx ci k n id c : Nat} {rn : String} {ty : FieldType} (hf : PA own Ts idx ci k rn ty) (hk : kd id = (10 + ci, n)) (ht : tp ci k = some c) (hi : id ∈ ids (mV M)) {v : Value} (hn : narrow ty (cv (mV M) v) = cv (mV M) v) (hfit : fits ty (cv (mV M) v) = true) {σ' : Sg} (hs : ct (mV M) σ' id = .inr (ci, (flds (va (mV M)) id (σ.1 id) (σ.2.2 id) ci).set k (cv (mV M) v))) (ho : ∀ j, j ≠ id → ct (mV M) σ' j = ct (mV M) σ j) (hd : decode cc pc = .ok (.putfield idx, 3)) (h : PS M (pc + 3) lv st σ' kn) : PS M pc lv (v :: .ref id :: st) σ kn := by
  obtain ⟨p, l, e, R, s, m, args, below, meth, c, V, nL, Q⟩ := M
  intro ls H locs hl hG hS
  obtain ⟨q0, hq⟩ := cell_at (V := V) hi
  have hq0 := hq
  rw [ct_o hk] at hq
  unfold PA at hf
  cases hcl : vwCl[ci]? with
  | none => rw [hcl] at hf; exact hf.elim
  | some r =>
    obtain ⟨Cn, T, N⟩ := r
    rw [hcl] at hf
    obtain ⟨f1, f2, f3, f4, f5, f6, ⟨ty0, f7⟩, f8⟩ := hf
    refine va_put (D := vD V) (v := cv V v) C.1 C.2.1 C.2.2.2.2.1 f2 ty0 f7 f8 C.2.2.2.1 C.2.2.2.2.2.2.2.1 hG.1 hG.2.1 hS q0 hq hcl k f1 (C.2.2.2.2.1 _ f3) (by subst f4; exact fun _ h => h) f5 f6 hn hfit (flds_len ht) hd (fun H1 locs1 hP hD hS => ?_)
    have e : (cells V σ).set q0 (va V id, .inr (ci, (flds (va V) id (σ.1 id) (σ.2.2 id) ci).set k (cv V v))) = cells V σ' := by
      have e := cell_set (σ' := σ') hG.2.1 hq0 hi ho
      rw [show ct V σ' id = _ from hs] at e
      exact e
    rw [e] at hP hD
    exact h ls H1 locs1 hl ⟨hP, hD, hG.2.2⟩ hS
theorem P_putI (C : Cx M cc ret own Ts rm mc ms Qc) {idx ci k n id : Nat} {rn : String} (hf : PA own Ts idx ci k rn .int) (hk : kd id = (10 + ci, n)) (ht : tp ci k = some 0) (hi : id ∈ ids (mV M)) {v : Int32} (hd : decode cc pc = .ok (.putfield idx, 3)) (h : PS M (pc + 3) lv st (si σ id k v) kn) : PS M pc lv (.int v :: .ref id :: st) σ kn :=
  P_put0 C hf hk ht hi rfl rfl (by rw [ct_o hk]; show _ = Sum.inr (ci, List.set _ k (Value.int v)); rw [flds_set_i ht]; show Sum.inr (ci, flds _ _ (va_up σ.1 id _ id) _ _) = _; rw [va_up_self]; rfl) (fun j hj => ct_sia hj) hd h
theorem P_putZ (C : Cx M cc ret own Ts rm mc ms Qc) {idx ci k n id : Nat} {rn : String} (hf : PA own Ts idx ci k rn .boolean) (hk : kd id = (10 + ci, n)) (ht : tp ci k = some 0) (hi : id ∈ ids (mV M)) {v : Int32} (hv : narrow .boolean (.int v) = .int v) (hw : fits .boolean (.int v) = true) (hd : decode cc pc = .ok (.putfield idx, 3)) (h : PS M (pc + 3) lv st (si σ id k v) kn) : PS M pc lv (.int v :: .ref id :: st) σ kn :=
  P_put0 C hf hk ht hi hv hw (by rw [ct_o hk]; show _ = Sum.inr (ci, List.set _ k (Value.int v)); rw [flds_set_i ht]; show Sum.inr (ci, flds _ _ (va_up σ.1 id _ id) _ _) = _; rw [va_up_self]; rfl) (fun j hj => ct_sia hj) hd h
theorem P_putD (C : Cx M cc ret own Ts rm mc ms Qc) {idx ci k n id μ : Nat} {rn : String} {ty : FieldType} (hf : PA own Ts idx ci k rn ty) (hk : kd id = (10 + ci, n)) (ht : tp ci k = some 1) (hi : id ∈ ids (mV M)) (hn : ∀ a, narrow ty (.ref a) = .ref a) (hw : ∀ a, fits ty (.ref a) = true) (hd : decode cc pc = .ok (.putfield idx, 3)) (h : PS M (pc + 3) lv st (sr σ id k (some μ)) kn) : PS M pc lv (.ref μ :: .ref id :: st) σ kn :=
  P_put0 C hf hk ht hi (hn _) (hw _) (by rw [ct_o hk]; show _ = Sum.inr (ci, List.set _ k (va_rf ((some μ).map _))); rw [flds_set_r ht]; show Sum.inr (ci, flds _ _ _ (va_up σ.2.2 id _ id) _) = _; rw [va_up_self]; rfl) (fun j hj => ct_sra hj) hd h
theorem ty_at (V : Vx) {t : Nat} (h : t < 7) : ∃ ty, (tysV V)[t]? = some (vC V t, ty) := by
  match t, h with
  | 0, _ => exact ⟨_, rfl⟩
  | 1, _ => exact ⟨_, rfl⟩
  | 2, _ => exact ⟨_, rfl⟩
  | 3, _ => exact ⟨_, rfl⟩
  | 4, _ => exact ⟨_, rfl⟩
  | 5, _ => exact ⟨_, rfl⟩
  | 6, _ => exact ⟨_, rfl⟩
theorem P_iald (C : Cx M cc ret own Ts rm mc ms Qc) {id n : Nat} {i : Int32} (hk : kd id = (0, n)) (hi : id ∈ ids (mV M)) (hin : vp_in i n) (hd : decode cc pc = .ok (.iaload, 1)) (h : PS M (pc + 1) lv (.int (gi σ id i.toNatClampNeg) :: st) σ kn) : PS M pc lv (.int i :: .ref id :: st) σ kn := by
  obtain ⟨p, l, e, R, s, m, args, below, meth, c, V, nL, Q⟩ := M
  intro ls H locs hl hG hS
  obtain ⟨q0, hq⟩ := cell_at (V := V) hi
  rw [ct_i hk (by decide)] at hq
  exact va_iald (D := vD V) C.1 C.2.1 C.2.2.2.2.2.2.2.1 hG.1 q0 0 hq rfl hin hd (h ls H locs hl hG hS)
theorem P_bald (C : Cx M cc ret own Ts rm mc ms Qc) {id n : Nat} {i : Int32} (hk : kd id = (1, n)) (hi : id ∈ ids (mV M)) (hin : vp_in i n) (hd : decode cc pc = .ok (.baload, 1)) (h : PS M (pc + 1) lv (.int (gi σ id i.toNatClampNeg) :: st) σ kn) : PS M pc lv (.int i :: .ref id :: st) σ kn := by
  obtain ⟨p, l, e, R, s, m, args, below, meth, c, V, nL, Q⟩ := M
  intro ls H locs hl hG hS
  obtain ⟨q0, hq⟩ := cell_at (V := V) hi
  rw [ct_i hk (by decide)] at hq
  exact va_bald (D := vD V) C.1 C.2.1 C.2.2.2.2.2.2.2.1 hG.1 q0 1 hq rfl hin hd (h ls H locs hl hG hS)
theorem P_zald (C : Cx M cc ret own Ts rm mc ms Qc) {id n : Nat} {i : Int32} (hk : kd id = (2, n)) (hi : id ∈ ids (mV M)) (hin : vp_in i n) (hd : decode cc pc = .ok (.baload, 1)) (h : PS M (pc + 1) lv (.int (gi σ id i.toNatClampNeg) :: st) σ kn) : PS M pc lv (.int i :: .ref id :: st) σ kn := by
  obtain ⟨p, l, e, R, s, m, args, below, meth, c, V, nL, Q⟩ := M
  intro ls H locs hl hG hS
  obtain ⟨q0, hq⟩ := cell_at (V := V) hi
  rw [ct_i hk (by decide)] at hq
  exact va_zald (D := vD V) C.1 C.2.1 C.2.2.2.2.2.2.2.1 hG.1 q0 2 hq rfl hin hd (h ls H locs hl hG hS)
theorem P_lald (C : Cx M cc ret own Ts rm mc ms Qc) {id n : Nat} {i : Int32} (hk : kd id = (3, n)) (hi : id ∈ ids (mV M)) (hin : vp_in i n) (hd : decode cc pc = .ok (.laload, 1)) (h : PS M (pc + 1) lv (.long (gl σ id i.toNatClampNeg) :: st) σ kn) : PS M pc lv (.int i :: .ref id :: st) σ kn := by
  obtain ⟨p, l, e, R, s, m, args, below, meth, c, V, nL, Q⟩ := M
  intro ls H locs hl hG hS
  obtain ⟨q0, hq⟩ := cell_at (V := V) hi
  rw [ct_l hk] at hq
  exact va_lald (D := vD V) C.1 C.2.1 C.2.2.2.2.2.2.2.1 hG.1 q0 3 hq rfl hin hd (h ls H locs hl hG hS)
theorem P_iast (C : Cx M cc ret own Ts rm mc ms Qc) {id n : Nat} {i : Int32} {x : Int32} (hk : kd id = (0, n)) (hi : id ∈ ids (mV M)) (hin : vp_in i n) (hd : decode cc pc = .ok (.iastore, 1)) (h : PS M (pc + 1) lv st (si σ id i.toNatClampNeg x) kn) : PS M pc lv (.int x :: .int i :: .ref id :: st) σ kn := by
  obtain ⟨p, l, e, R, s, m, args, below, meth, c, V, nL, Q⟩ := M
  intro ls H locs hl hG hS
  obtain ⟨q0, hq⟩ := cell_at (V := V) hi
  have hq0 := hq
  rw [ct_i hk (by decide)] at hq
  refine va_iast (D := vD V) C.1 C.2.1 C.2.2.2.2.2.2.2.1 hG.1 hG.2.1 hS q0 0 hq rfl hin hd (fun H1 locs1 hP hD hS => ?_)
  have e : (cells V σ).set q0 (va V id, .inl (vC V 0, n, .inl (upd (σ.1 id) i.toNatClampNeg x))) = cells V (si σ id i.toNatClampNeg x) := by
    have e := cell_set (σ' := si σ id i.toNatClampNeg x) hG.2.1 hq0 hi (fun j hj => ct_sia hj)
    rw [ct_i hk (by decide)] at e
    rw [← e]
    show _ = List.set _ _ (_, Sum.inl (_, _, Sum.inl (va_up σ.1 id _ id)))
    rw [va_up_self]
  rw [e] at hP hD
  exact h ls H1 locs1 hl ⟨hP, hD, hG.2.2⟩ hS
theorem P_bast (C : Cx M cc ret own Ts rm mc ms Qc) {id n : Nat} {i : Int32} {x : Int32} (hk : kd id = (1, n)) (hi : id ∈ ids (mV M)) (hin : vp_in i n) (hd : decode cc pc = .ok (.bastore, 1)) (h : PS M (pc + 1) lv st (si σ id i.toNatClampNeg (vp_nar .byte x)) kn) : PS M pc lv (.int x :: .int i :: .ref id :: st) σ kn := by
  obtain ⟨p, l, e, R, s, m, args, below, meth, c, V, nL, Q⟩ := M
  intro ls H locs hl hG hS
  obtain ⟨q0, hq⟩ := cell_at (V := V) hi
  have hq0 := hq
  rw [ct_i hk (by decide)] at hq
  refine va_bast (D := vD V) C.1 C.2.1 C.2.2.2.2.2.2.2.1 hG.1 hG.2.1 hS q0 1 hq rfl hin hd (fun H1 locs1 hP hD hS => ?_)
  have e : (cells V σ).set q0 (va V id, .inl (vC V 1, n, .inl (upd (σ.1 id) i.toNatClampNeg (vp_nar .byte x)))) = cells V (si σ id i.toNatClampNeg (vp_nar .byte x)) := by
    have e := cell_set (σ' := si σ id i.toNatClampNeg (vp_nar .byte x)) hG.2.1 hq0 hi (fun j hj => ct_sia hj)
    rw [ct_i hk (by decide)] at e
    rw [← e]
    show _ = List.set _ _ (_, Sum.inl (_, _, Sum.inl (va_up σ.1 id _ id)))
    rw [va_up_self]
  rw [e] at hP hD
  exact h ls H1 locs1 hl ⟨hP, hD, hG.2.2⟩ hS
theorem P_zast (C : Cx M cc ret own Ts rm mc ms Qc) {id n : Nat} {i : Int32} {x : Int32} (hk : kd id = (2, n)) (hi : id ∈ ids (mV M)) (hin : vp_in i n) (hd : decode cc pc = .ok (.bastore, 1)) (h : PS M (pc + 1) lv st (si σ id i.toNatClampNeg (vp_nar .boolean x)) kn) : PS M pc lv (.int x :: .int i :: .ref id :: st) σ kn := by
  obtain ⟨p, l, e, R, s, m, args, below, meth, c, V, nL, Q⟩ := M
  intro ls H locs hl hG hS
  obtain ⟨q0, hq⟩ := cell_at (V := V) hi
  have hq0 := hq
  rw [ct_i hk (by decide)] at hq
  refine va_zast (D := vD V) C.1 C.2.1 C.2.2.2.2.2.2.2.1 hG.1 hG.2.1 hS q0 2 hq rfl hin hd (fun H1 locs1 hP hD hS => ?_)
  have e : (cells V σ).set q0 (va V id, .inl (vC V 2, n, .inl (upd (σ.1 id) i.toNatClampNeg (vp_nar .boolean x)))) = cells V (si σ id i.toNatClampNeg (vp_nar .boolean x)) := by
    have e := cell_set (σ' := si σ id i.toNatClampNeg (vp_nar .boolean x)) hG.2.1 hq0 hi (fun j hj => ct_sia hj)
    rw [ct_i hk (by decide)] at e
    rw [← e]
    show _ = List.set _ _ (_, Sum.inl (_, _, Sum.inl (va_up σ.1 id _ id)))
    rw [va_up_self]
  rw [e] at hP hD
  exact h ls H1 locs1 hl ⟨hP, hD, hG.2.2⟩ hS
theorem P_last (C : Cx M cc ret own Ts rm mc ms Qc) {id n : Nat} {i : Int32} {x : Int64} (hk : kd id = (3, n)) (hi : id ∈ ids (mV M)) (hin : vp_in i n) (hd : decode cc pc = .ok (.lastore, 1)) (h : PS M (pc + 1) lv st (sl σ id i.toNatClampNeg x) kn) : PS M pc lv (.long x :: .int i :: .ref id :: st) σ kn := by
  obtain ⟨p, l, e, R, s, m, args, below, meth, c, V, nL, Q⟩ := M
  intro ls H locs hl hG hS
  obtain ⟨q0, hq⟩ := cell_at (V := V) hi
  have hq0 := hq
  rw [ct_l hk] at hq
  refine va_last (D := vD V) C.1 C.2.1 C.2.2.2.2.2.2.2.1 hG.1 hG.2.1 hS q0 3 hq rfl hin hd (fun H1 locs1 hP hD hS => ?_)
  have e : (cells V σ).set q0 (va V id, .inl (vC V 3, n, .inr (.inl (vp_updL (σ.2.1 id) i.toNatClampNeg x)))) = cells V (sl σ id i.toNatClampNeg x) := by
    have e := cell_set (σ' := sl σ id i.toNatClampNeg x) hG.2.1 hq0 hi (fun j hj => ct_sla hj)
    rw [ct_l hk] at e
    rw [← e]
    show _ = List.set _ _ (_, Sum.inl (_, _, Sum.inr (Sum.inl (va_up σ.2.1 id _ id))))
    rw [va_up_self]
  rw [e] at hP hD
  exact h ls H1 locs1 hl ⟨hP, hD, hG.2.2⟩ hS
theorem P_aldD (C : Cx M cc ret own Ts rm mc ms Qc) {id t n μ : Nat} {i : Int32} (hk : kd id = (t, n)) (h1 : t = 4 ∨ t = 5) (hi : id ∈ ids (mV M)) (hin : vp_in i n) (hr : gr σ id i.toNatClampNeg = some μ) (hd : decode cc pc = .ok (.aaload, 1)) (h : PS M (pc + 1) lv (.ref μ :: st) σ kn) : PS M pc lv (.int i :: .ref id :: st) σ kn := by
  obtain ⟨p, l, e, R, s, m, args, below, meth, c, V, nL, Q⟩ := M
  intro ls H locs hl hG hS
  obtain ⟨q0, hq⟩ := cell_at (V := V) hi
  rw [ct_r hk (by omega) (by omega)] at hq
  have hr : σ.2.2 id i.toNatClampNeg = some μ := hr
  have k := h ls H locs hl hG hS
  rcases h1 with rfl | rfl
  · refine va_aldq (D := vD V) C.1 C.2.1 C.2.2.2.2.2.2.2.1 hG.1 q0 4 hq rfl hin hd ?_
    rw [hr]; exact k
  · refine va_aldq (D := vD V) C.1 C.2.1 C.2.2.2.2.2.2.2.1 hG.1 q0 5 hq rfl hin hd ?_
    rw [hr]; exact k
theorem P_aldN (C : Cx M cc ret own Ts rm mc ms Qc) {id t n : Nat} {i : Int32} (hk : kd id = (t, n)) (h1 : t = 4 ∨ t = 5) (hi : id ∈ ids (mV M)) (hin : vp_in i n) (hr : gr σ id i.toNatClampNeg = none) (hd : decode cc pc = .ok (.aaload, 1)) (h : PS M (pc + 1) lv (.null :: st) σ kn) : PS M pc lv (.int i :: .ref id :: st) σ kn := by
  obtain ⟨p, l, e, R, s, m, args, below, meth, c, V, nL, Q⟩ := M
  intro ls H locs hl hG hS
  obtain ⟨q0, hq⟩ := cell_at (V := V) hi
  rw [ct_r hk (by omega) (by omega)] at hq
  have hr : σ.2.2 id i.toNatClampNeg = none := hr
  have k := h ls H locs hl hG hS
  rcases h1 with rfl | rfl
  · refine va_aldq (D := vD V) C.1 C.2.1 C.2.2.2.2.2.2.2.1 hG.1 q0 4 hq rfl hin hd ?_
    rw [hr]; exact k
  · refine va_aldq (D := vD V) C.1 C.2.1 C.2.2.2.2.2.2.2.1 hG.1 q0 5 hq rfl hin hd ?_
    rw [hr]; exact k
theorem P_aldT (C : Cx M cc ret own Ts rm mc ms Qc) {id n : Nat} {i : Int32} (hk : kd id = (6, n)) (hi : id ∈ ids (mV M)) (hin : vp_in i n) (hd : decode cc pc = .ok (.aaload, 1)) (h : PS M (pc + 1) lv (.ref (id + 1 + 2 * i.toNatClampNeg) :: st) σ kn) : PS M pc lv (.int i :: .ref id :: st) σ kn := by
  obtain ⟨p, l, e, R, s, m, args, below, meth, c, V, nL, Q⟩ := M
  intro ls H locs hl hG hS
  obtain ⟨q0, hq⟩ := cell_at (V := V) hi
  rw [ct_t hk] at hq
  exact va_aldq (D := vD V) C.1 C.2.1 C.2.2.2.2.2.2.2.1 hG.1 q0 6 hq rfl hin hd (h ls H locs hl hG hS)
theorem P_alen (C : Cx M cc ret own Ts rm mc ms Qc) {id t n : Nat} {v : Int32} (hk : kd id = (t, n)) (ht : t < 7) (hi : id ∈ ids (mV M)) (hv : Int32.ofNat n = v) (hd : decode cc pc = .ok (.arraylength, 1)) (h : PS M (pc + 1) lv (.int v :: st) σ kn) : PS M pc lv (.ref id :: st) σ kn := by
  obtain ⟨p, l, e, R, s, m, args, below, meth, c, V, nL, Q⟩ := M
  intro ls H locs hl hG hS
  obtain ⟨q0, hq⟩ := cell_at (V := V) hi
  obtain ⟨ty, hty⟩ := ty_at V ht
  have hc : ∃ x : _, ct V σ id = .inl (vC V t, n, x) := by
    by_cases h3 : t < 3
    · exact ⟨_, ct_i hk h3⟩
    · by_cases h4 : t = 3
      · subst h4; exact ⟨_, ct_l hk⟩
      · by_cases h6 : t = 6
        · subst h6; exact ⟨_, ct_t hk⟩
        · exact ⟨_, ct_r hk (by omega) (by omega)⟩
  obtain ⟨x, hx⟩ := hc
  rw [hx] at hq
  exact va_alen (D := vD V) C.1 C.2.1 C.2.2.2.2.2.2.2.1 hG.1 q0 t hq hty hv hd (h ls H locs hl hG hS)
theorem P_iret {Qk : Int32 → Sg → Prop} (C : Cx M cc (some .int) own Ts rm mc ms (QI (mV M) Qk)) {x : Int32} (hd : decode cc pc = .ok (.ireturn, 1)) (h : Qk x σ) : PS M pc lv [.int x] σ (mc, ms) := by
  obtain ⟨p, l, e, R, s, m, args, below, meth, c, V, nL, Q⟩ := M
  intro ls H locs hl hG hS
  obtain ⟨hx, hb, hml, hown, hts, hr, hlk, hK, hR, hQ, hw, hX⟩ := C
  have hQ : Q = MQ below (QI V Qk) args s mc ms (vA V) := hQ
  subst hQ
  exact W.iret (v := x) hx hb hr (fun t ht hW => ⟨⟨x, σ, rfl, h, GG_mk ht hG hK hX hS hW⟩, hS.F ht⟩) hS.2.2 hd hlk
theorem P_lret {Qk : Int64 → Sg → Prop} (C : Cx M cc (some .long) own Ts rm mc ms (QL (mV M) Qk)) {x : Int64} (hd : decode cc pc = .ok (.lreturn, 1)) (h : Qk x σ) : PS M pc lv [.long x] σ (mc, ms) := by
  obtain ⟨p, l, e, R, s, m, args, below, meth, c, V, nL, Q⟩ := M
  intro ls H locs hl hG hS
  obtain ⟨hx, hb, hml, hown, hts, hr, hlk, hK, hR, hQ, hw, hX⟩ := C
  have hQ : Q = MQ below (QL V Qk) args s mc ms (vA V) := hQ
  subst hQ
  exact W.lret (v := x) hx hb hr (fun t ht hW => ⟨⟨x, σ, rfl, h, GG_mk ht hG hK hX hS hW⟩, hS.F ht⟩) hS.2.2 hd hlk
theorem P_zret {Qk : Int32 → Sg → Prop} {ty : FieldType} (C : Cx M cc (some ty) own Ts rm mc ms (QI (mV M) Qk)) {x : Int32} (hn : narrow ty (.int x) = .int x) (hd : decode cc pc = .ok (.ireturn, 1)) (h : Qk x σ) : PS M pc lv [.int x] σ (mc, ms) := by
  obtain ⟨p, l, e, R, s, m, args, below, meth, c, V, nL, Q⟩ := M
  intro ls H locs hl hG hS
  obtain ⟨hx, hb, hml, hown, hts, hr, hlk, hK, hR, hQ, hw, hX⟩ := C
  have hQ : Q = MQ below (QI V Qk) args s mc ms (vA V) := hQ
  subst hQ
  exact W.zret (v := x) hx hb hr hn (fun t ht hW => ⟨⟨x, σ, rfl, h, GG_mk ht hG hK hX hS hW⟩, hS.F ht⟩) hS.2.2 hd hlk
theorem P_vret {Qk : Sg → Prop} (C : Cx M cc none own Ts rm mc ms (QV (mV M) Qk)) (hd : decode cc pc = .ok (.return_, 1)) (h : Qk σ) : PS M pc lv [] σ (mc, ms) := by
  obtain ⟨p, l, e, R, s, m, args, below, meth, c, V, nL, Q⟩ := M
  intro ls H locs hl hG hS
  obtain ⟨hx, hb, hml, hown, hts, hr, hlk, hK, hR, hQ, hw, hX⟩ := C
  have hQ : Q = MQ below (QV V Qk) args s mc ms (vA V) := hQ
  subst hQ
  exact W.vret hx hb hr (fun t ht hW => ⟨⟨σ, rfl, h, GG_mk ht hG hK hX hS hW⟩, hS.F ht⟩) hS.2.2 hd hlk
theorem P_aret {Qk : Nat → Sg → Prop} {rt : FieldType} (C : Cx M cc (some rt) own Ts rm mc ms (QR (mV M) Qk)) (hrt : (∃ n, rt = .object n) ∨ ∃ t, rt = .array t) {x : Nat} (hd : decode cc pc = .ok (.areturn, 1)) (h : Qk x σ) : PS M pc lv [.ref x] σ (mc, ms) := by
  obtain ⟨p, l, e, R, s, m, args, below, meth, c, V, nL, Q⟩ := M
  intro ls H locs hl hG hS
  obtain ⟨hx, hb, hml, hown, hts, hr, hlk, hK, hR, hQ, hw, hX⟩ := C
  have hQ : Q = MQ below (QR V Qk) args s mc ms (vA V) := hQ
  subst hQ
  exact W.aret (v := .ref (va V x)) hx hb hr hrt (Or.inr ⟨_, rfl⟩) (fun t ht hW => ⟨⟨(x, σ), va V x, rfl, h, rfl, GG_mk ht hG hK hX hS hW⟩, hS.F ht⟩) hS.2.2 hd hlk
end Rules
theorem lv_args_map (V : Vx) : ∀ (as : List Value) (i : Nat), lv_args i (as.map (cv V)) = (lv_args i as).map (fun q => (q.1, cv V q.2))
  | [], _ => rfl
  | v :: vs, i => by simp only [List.map_cons, lv_args, cv_cat, lv_args_map V vs]
noncomputable def rmz (d : Nat) : Room := { frames := d, cells := 0, slots := 0, locals := 40 * d }
/-- the way in: a method's contract, from its first instruction on -/
theorem Ka_of {l : Launch} {V : Vx} {y : MethodName} {ws ws' : List Cond} {rm : Room} {mc ms : Nat} {cc : ByteArray} {maxL : Nat} {ret : Option FieldType} {own : String} {as : List Value} {σ : Sg} {Qc : Array Value → State → Outcome → State → Prop}
    (hy : plainName y.cls = true) (hw : ws = Cond.code y cc maxL ret :: ws') (ho : y.cls = own) (hlen : (lg_sl (as.map (cv V))).length ≤ maxL)
    (h : ∀ M : Mx, mL M = l → mV M = V → mN M = maxL → Cx M cc ret own ws rm mc ms Qc → PS M 0 (lv_args 0 as) [] σ (0, 0)) : Ka l V y ws rm mc ms as σ Qc := by
  refine Met.ofW (cc := cc) (maxL := maxL) (ret := ret) hy hw ?_
  intro p e s m args below meth c s1 B hml hv
  obtain ⟨rfl, hG, hK, hX⟩ := hv
  have hown : s.vm.findClass own = some m.cls := by rw [← ho]; exact findClass_of_methodNamed B.named
  have hl := lv_entry (as.map (cv V)) (n := maxL) hlen
  rw [lg_entry_eq]
  rw [lv_args_map] at hl
  exact h (p, l, e, rm, s, m, _, below, meth, c, V, maxL, _) rfl rfl rfl ⟨B.exec, B.bytes, hml, hown, atoms_spec (ws := ws) B.pre, B.returns, B.notSynchronized, hK, rfl, rfl, hG.2.2, hX⟩ _ _ _ hl hG va_S.rf
/-- a call's run, in words of the state -/
noncomputable def RS (M : Mx) (pc : Nat) (lv : List (Nat × Value)) (st0 rest : List Value) (σ : Sg) (kn : Nat × Nat) (mc ms : Nat) (Qa : State → Outcome → State → Prop) : Prop := match M with
  | (p, l, e, R, s, m, args, below, meth, c, V, nL, Q) => ∀ (ls : Array Slot) (H : Heap) (locs : List Loc), lv_has ls nL (lv.map (fun q => (q.1, cv V q.2))) → GH V σ H → va_S (vA V) s.heap H locs → va_Run p l e R s m args below meth c H locs kn.1 kn.2 mc ms (F0 m pc ls (st0.map (cv V))) (rest.map (cv V)) Qa (vA V)
section Calls
variable {M : Mx} {cc : ByteArray} {ret : Option FieldType} {own : String} {Ts : List Cond} {rm rc : Room} {mc ms : Nat} {Qc : Array Value → State → Outcome → State → Prop} {pc : Nat} {lv lv' : List (Nat × Value)} {st st0 : List Value} {σ : Sg} {kn : Nat × Nat} {idx n b ci z : Nat} {y : MethodName} {ws : List Cond} {As : List Value} {Cn : String} {T : u_T} {N : Nat} {Qm : Array Value → State → Outcome → State → Prop} {Qa : State → Outcome → State → Prop} {c1 s1 : Nat}
theorem P_ci {Qk : Int32 → Sg → Prop} {a : Array Value} (hr : RS M pc lv st0 st σ kn c1 s1 (QI (mV M) Qk a)) (h : ∀ (r : Int32) (σ' : Sg), Qk r σ' → PS M (pc + 3) lv (.int r :: st) σ' (kn.1 + c1, kn.2 + s1)) : PS M pc lv st0 σ kn := by
  obtain ⟨p, l, e, R, s, m, args, below, meth, c, V, nL, Q⟩ := M
  intro ls H locs hl hG hS
  exact va_calli (hr ls H locs hl hG hS) hS (fun _ _ h => h) (fun _ h => h) (fun r u t H1 locs1 ht hvm hq hB hz hk hS1 => by subst ht; exact h r u hq ls _ locs1 hl hB.1 hS1)
theorem P_cl {Qk : Int64 → Sg → Prop} {a : Array Value} (hr : RS M pc lv st0 st σ kn c1 s1 (QL (mV M) Qk a)) (h : ∀ (r : Int64) (σ' : Sg), Qk r σ' → PS M (pc + 3) lv (.long r :: st) σ' (kn.1 + c1, kn.2 + s1)) : PS M pc lv st0 σ kn := by
  obtain ⟨p, l, e, R, s, m, args, below, meth, c, V, nL, Q⟩ := M
  intro ls H locs hl hG hS
  exact va_calll (hr ls H locs hl hG hS) hS (fun _ _ h => h) (fun _ h => h) (fun r u t H1 locs1 ht hvm hq hB hz hk hS1 => by subst ht; exact h r u hq ls _ locs1 hl hB.1 hS1)
theorem P_cv {Qk : Sg → Prop} {a : Array Value} (hr : RS M pc lv st0 st σ kn c1 s1 (QV (mV M) Qk a)) (h : ∀ (σ' : Sg), Qk σ' → PS M (pc + 3) lv st σ' (kn.1 + c1, kn.2 + s1)) : PS M pc lv st0 σ kn := by
  obtain ⟨p, l, e, R, s, m, args, below, meth, c, V, nL, Q⟩ := M
  intro ls H locs hl hG hS
  exact va_callv (hr ls H locs hl hG hS) hS (fun _ _ h => h) (fun _ h => h) (fun u t H1 locs1 ht hvm hq hB hz hk hS1 => by subst ht; exact h u hq ls _ locs1 hl hB.1 hS1)
theorem P_cr {Qk : Nat → Sg → Prop} {a : Array Value} (hr : RS M pc lv st0 st σ kn c1 s1 (QR (mV M) Qk a)) (h : ∀ (r : Nat) (σ' : Sg), Qk r σ' → PS M (pc + 3) lv (.ref r :: st) σ' (kn.1 + c1, kn.2 + s1)) : PS M pc lv st0 σ kn := by
  obtain ⟨p, l, e, R, s, m, args, below, meth, c, V, nL, Q⟩ := M
  intro ls H locs hl hG hS
  exact va_callr (hr ls H locs hl hG hS) hS (fun _ _ h => h) (fun _ h => h) (fun u ra t H1 locs1 ht hvm hq hB hz hk hS1 => by subst ht; obtain ⟨rfl, hB⟩ := hB; exact h u.1 u.2 hq ls _ locs1 hl hB.1 hS1)
theorem GGblind {V : Vx} {av : List Value} {σ : Sg} : FrameBlind (va_Pc av (fun U => GG V σ U)) := fun a U g mk q => by
  obtain ⟨q0, q1, q2, q3, q4⟩ := q
  exact ⟨q0, q1, va_K.moved (u := U) (U := U.calling g mk a) (Vm.Alike.refl U.vm) q2, q4.1 U _ (Or.inr rfl) (Nat.le_refl _) (fun _ _ _ => rfl) q3, q4⟩
/-- what a call of a method of the object's own kind asks of the tables -/
noncomputable def KV (own : String) (Ts : List Cond) (rm : Room) (idx : Nat) (Cn : String) (y : MethodName) (ws : List Cond) (rc : Room) (n : Nat) : Prop :=
  ∃ (bytes : ByteArray) (maxL : Nat) (rt : Option FieldType) (ws' : List Cond), GoodIn Ts (wsV own idx Cn y ws) ∧ ws = Cond.code y bytes maxL rt :: ws' ∧ (y.cls = Cn ∧ y.cls ≠ "java/lang/invoke/MethodHandle" ∧ y.cls ≠ "java/lang/invoke/VarHandle" ∧ (parseMethodDescriptor y.desc).map (fun d => d.parameters.length) = some n) ∧ (rc.frames + 1 ≤ rm.frames ∧ 8 + (maxL + 11) + rc.locals ≤ rm.locals)
theorem map_stk {V : Vx} {As : List Value} {b : Nat} {st : List Value} : (As.reverse ++ .ref b :: st).map (cv V) = (As.map (cv V)).reverse ++ .ref (va V b) :: st.map (cv V) := by
  rw [List.map_append, List.map_reverse]; rfl
theorem cat_sum {V : Vx} {m : MethodId} {pc : Nat} {ls : Array Slot} {x st : List Value} (h : (st.map fun v => v.category).sum ≤ 8) : 2 * (F0 m pc ls x).monitorRoom + ((st.map (cv V)).map fun v => v.category).sum ≤ 8 := by
  have e : (st.map (cv V)).map (fun v => v.category) = st.map (fun v => v.category) := by rw [List.map_map]; exact List.map_congr_left (fun v _ => cv_cat V v)
  rw [e]
  show 2 * 0 + _ ≤ 8
  omega
theorem R_v (C : Cx M cc ret own Ts rm mc ms Qc) (k : KV own Ts rm idx Cn y ws rc n) (hn : As.length = n) (hk : kd b = (10 + ci, z)) (hcl : vwCl[ci]? = some (Cn, T, N)) (hi : b ∈ ids (mV M)) (hst : (st.map fun v => v.category).sum ≤ 8) (hd : decode cc pc = .ok (.invokevirtual idx, 3)) (hf : kn.1 + rc.cells ≤ rm.cells ∧ kn.2 + rc.slots ≤ rm.slots)
    (hM : Ka (mL M) (mV M) y ws rc rc.cells rc.slots (.ref b :: As) σ Qm) : RS M pc lv (As.reverse ++ .ref b :: st) st σ kn rc.cells rc.slots (Qm ((.ref b :: As).map (cv (mV M))).toArray) := by
  obtain ⟨p, l, e, R, s, m, args, below, meth, c, V, nL, Q⟩ := M
  intro ls H locs hl hG hS
  obtain ⟨hx, hb, hml, hown, hts, hr, hlk, hK, rfl, rfl, hw, hX⟩ := C
  obtain ⟨bytes, maxL, rt, ws', k1, k2, k3, k4⟩ := k
  obtain ⟨q0, hq⟩ := cell_at (V := V) (σ := σ) hi
  rw [ct_o hk] at hq
  rw [map_stk]
  exact va_runV (As := As.map (cv V)) (b := va V b) ⟨hx, hb, hml, hown, hts⟩ hM (cwV n hts k1 k2 rfl rfl k3 k4) ⟨GGblind, va_recv hK hG.1 hcl hq, fun U hU hW => ⟨rfl, GG_mk hU hG hK hX hS hW⟩⟩ rfl (by rw [List.length_map]; exact hn) hl.1 rfl (cat_sum hst) hd hf
/-- a call of a method that the object's kind has from above -/
noncomputable def KU (own : String) (Ts : List Cond) (rm : Room) (idx : Nat) (Cn : String) (y : MethodName) (ws : List Cond) (rc : Room) (n : Nat) : Prop :=
  ∃ (bytes : ByteArray) (maxL : Nat) (rt : Option FieldType) (ws' : List Cond) (owner : String) (x : MethodName), (GoodIn Ts (va_wsU own idx Cn owner x y ws) ∧ y = ⟨owner, x.name, x.desc⟩ ∨ GoodIn Ts (va_wsO own idx Cn owner x y ws) ∧ ∃ (b0 : ByteArray) (m0 : Nat) (r0 : Option FieldType), Cond.code ⟨owner, x.name, x.desc⟩ b0 m0 r0 ∈ Ts) ∧ ws = Cond.code y bytes maxL rt :: ws' ∧ (owner ≠ "java/lang/invoke/MethodHandle" ∧ owner ≠ "java/lang/invoke/VarHandle" ∧ (parseMethodDescriptor x.desc).map (fun d => d.parameters.length) = some n) ∧ (rc.frames + 1 ≤ rm.frames ∧ 8 + (maxL + 11) + rc.locals ≤ rm.locals)
theorem R_u (C : Cx M cc ret own Ts rm mc ms Qc) (k : KU own Ts rm idx Cn y ws rc n) (hn : As.length = n) (hk : kd b = (10 + ci, z)) (hcl : vwCl[ci]? = some (Cn, T, N)) (hi : b ∈ ids (mV M)) (hst : (st.map fun v => v.category).sum ≤ 8) (hd : decode cc pc = .ok (.invokevirtual idx, 3)) (hf : kn.1 + rc.cells ≤ rm.cells ∧ kn.2 + rc.slots ≤ rm.slots)
    (hM : Ka (mL M) (mV M) y ws rc rc.cells rc.slots (.ref b :: As) σ Qm) : RS M pc lv (As.reverse ++ .ref b :: st) st σ kn rc.cells rc.slots (Qm ((.ref b :: As).map (cv (mV M))).toArray) := by
  obtain ⟨p, l, e, R, s, m, args, below, meth, c, V, nL, Q⟩ := M
  intro ls H locs hl hG hS
  obtain ⟨hx, hb, hml, hown, hts, hr, hlk, hK, rfl, rfl, hw, hX⟩ := C
  obtain ⟨bytes, maxL, rt, ws', owner, x, k1, k2, k3, k4⟩ := k
  obtain ⟨q0, hq⟩ := cell_at (V := V) (σ := σ) hi
  rw [ct_o hk] at hq
  rw [map_stk]
  have hcw : va_CU R s args own Cn owner idx x y bytes maxL rt ws rc rc.cells rc.slots n := by
    rcases k1 with ⟨g, e⟩ | ⟨g, b0, m0, r0, e⟩
    · exact va_cwU n hts g k2 rfl rfl e k3 k4
    · exact va_cwO n hts g k2 rfl rfl e k3 k4
  exact va_runU (As := As.map (cv V)) (b := va V b) ⟨hx, hb, hml, hown, hts⟩ hM hcw ⟨GGblind, va_recv hK hG.1 hcl hq, fun U hU hW => ⟨rfl, GG_mk hU hG hK hX hS hW⟩⟩ rfl (by rw [List.length_map]; exact hn) hl.1 rfl (cat_sum hst) hd hf
/-- a call of a method above, of the same object -/
noncomputable def KSU (own : String) (Ts : List Cond) (rm : Room) (idx : Nat) (y : MethodName) (ws : List Cond) (rc : Room) (n : Nat) : Prop :=
  ∃ (bytes : ByteArray) (maxL : Nat) (rt : Option FieldType) (ws' : List Cond), GoodIn Ts (va_wsSU own idx y ws) ∧ ws = Cond.code y bytes maxL rt :: ws' ∧ (y.name ≠ "<init>" ∧ (parseMethodDescriptor y.desc).map (fun d => d.parameters.length) = some n) ∧ (rc.frames + 1 ≤ rm.frames ∧ 8 + (maxL + 11) + rc.locals ≤ rm.locals)
theorem R_su (C : Cx M cc ret own Ts rm mc ms Qc) (k : KSU own Ts rm idx y ws rc n) (hn : As.length = n) (hk : kd b = (10 + ci, z)) (hcl : vwCl[ci]? = some (Cn, T, N)) (hi : b ∈ ids (mV M)) (hst : (st.map fun v => v.category).sum ≤ 8) (hd : decode cc pc = .ok (.invokespecial idx, 3)) (hf : kn.1 + rc.cells ≤ rm.cells ∧ kn.2 + rc.slots ≤ rm.slots)
    (hM : Ka (mL M) (mV M) y ws rc rc.cells rc.slots (.ref b :: As) σ Qm) : RS M pc lv (As.reverse ++ .ref b :: st) st σ kn rc.cells rc.slots (Qm ((.ref b :: As).map (cv (mV M))).toArray) := by
  obtain ⟨p, l, e, R, s, m, args, below, meth, c, V, nL, Q⟩ := M
  intro ls H locs hl hG hS
  obtain ⟨hx, hb, hml, hown, hts, hr, hlk, hK, rfl, rfl, hw, hX⟩ := C
  obtain ⟨bytes, maxL, rt, ws', k1, k2, k3, k4⟩ := k
  obtain ⟨q0, hq⟩ := cell_at (V := V) (σ := σ) hi
  rw [ct_o hk] at hq
  rw [map_stk]
  exact va_runSU (As := As.map (cv V)) (b := va V b) (hK.1 ci _ hcl).2 ⟨hx, hb, hml, hown, hts⟩ hM (va_cwSU n hts k1 k2 rfl rfl k3 k4) ⟨GGblind, va_recv hK hG.1 hcl hq, fun U hU hW => ⟨rfl, GG_mk hU hG hK hX hS hW⟩⟩ rfl (by rw [List.length_map]; exact hn) hl.1 rfl (cat_sum hst) hd hf
/-- a call of a function of a kind -/
noncomputable def KF (own : String) (Ts : List Cond) (rm : Room) (idx : Nat) (y : MethodName) (ws : List Cond) (rc : Room) (n : Nat) : Prop :=
  ∃ (bytes : ByteArray) (maxL : Nat) (rt : Option FieldType) (ws' : List Cond), GoodIn Ts (va_wsS own idx y ws) ∧ ws = Cond.code y bytes maxL rt :: ws' ∧ (y.cls ≠ "java/lang/invoke/MethodHandle" ∧ y.cls ≠ "java/lang/invoke/VarHandle" ∧ (parseMethodDescriptor y.desc).map (fun d => d.parameters.length) = some n) ∧ (rc.frames + 1 ≤ rm.frames ∧ 8 + (maxL + 11) + rc.locals ≤ rm.locals)
theorem R_f (C : Cx M cc ret own Ts rm mc ms Qc) (k : KF own Ts rm idx y ws rc n) (hn : As.length = n) (hst : (st.map fun v => v.category).sum ≤ 8) (hd : decode cc pc = .ok (.invokestatic idx, 3)) (hf : kn.1 + rc.cells ≤ rm.cells ∧ kn.2 + rc.slots ≤ rm.slots)
    (hM : Ka (mL M) (mV M) y ws rc rc.cells rc.slots As σ Qm) : RS M pc lv (As.reverse ++ st) st σ kn rc.cells rc.slots (Qm (As.map (cv (mV M))).toArray) := by
  obtain ⟨p, l, e, R, s, m, args, below, meth, c, V, nL, Q⟩ := M
  intro ls H locs hl hG hS
  obtain ⟨hx, hb, hml, hown, hts, hr, hlk, hK, rfl, rfl, hw, hX⟩ := C
  obtain ⟨bytes, maxL, rt, ws', k1, k2, k3, k4⟩ := k
  have e : (As.reverse ++ st).map (cv V) = (As.map (cv V)).reverse ++ st.map (cv V) := by rw [List.map_append, List.map_reverse]
  rw [e]
  exact va_runS (As := As.map (cv V)) ⟨hx, hb, hml, hown, hts⟩ hM (va_cwS n hts k1 k2 rfl rfl k3 k4) ⟨GGblind, fun U hU hW => ⟨rfl, GG_mk hU hG hK hX hS hW⟩⟩ rfl (by rw [List.length_map]; exact hn) hl.1 rfl (cat_sum hst) hd hf
/-- the greater, the less of two numbers -/
noncomputable def KM (own : String) (Ts : List Cond) (idx : Nat) (y : MethodName) (b : ByteArray) : Prop := Cond.methodLink own idx y ∈ Ts ∧ Cond.static y ∈ Ts ∧ Cond.initialized "java/lang/Math" ∈ Ts ∧ Cond.code y b 2 (some .int) ∈ Ts
theorem P_max (C : Cx M cc ret own Ts rm mc ms Qc) {x v : Int32} (k : KM own Ts idx Lib.Math.max.name Lib.Math.max.code) (hR : 1 ≤ rm.frames) (hL : (st.map fun v => v.category).sum + 13 ≤ rm.locals) (hf : kn.1 ≤ rm.cells ∧ kn.2 ≤ rm.slots) (hd : decode cc pc = .ok (.invokestatic idx, 3)) (h : PS M (pc + 3) lv (.int (if x < v then v else x) :: st) σ kn) : PS M pc lv (.int v :: .int x :: st) σ kn := by
  obtain ⟨p, l, e, R, s, m, args, below, meth, c, V, nL, Q⟩ := M
  intro ls H locs hl hG hS
  obtain ⟨hx, hb, hml, hown, hts, hr, hlk, hK, rfl, rfl, hw, hX⟩ := C
  obtain ⟨k1, k2, k3, k4⟩ := k
  have e : (st.map (cv V)).map (fun v => v.category) = st.map (fun v => v.category) := by rw [List.map_map]; exact List.map_congr_left (fun v _ => cv_cat V v)
  exact va_mmax hx hb (hml.trans hl.1.symm) hown (hts _ k1) (hts _ k2) (hts _ k3) (hts _ k4) hR (by rw [e]; exact hL) hf.1 hf.2 hd (h ls H locs hl hG hS)
theorem P_min (C : Cx M cc ret own Ts rm mc ms Qc) {x v : Int32} (k : KM own Ts idx Lib.Math.min.name Lib.Math.min.code) (hR : 1 ≤ rm.frames) (hL : (st.map fun v => v.category).sum + 13 ≤ rm.locals) (hf : kn.1 ≤ rm.cells ∧ kn.2 ≤ rm.slots) (hd : decode cc pc = .ok (.invokestatic idx, 3)) (h : PS M (pc + 3) lv (.int (if v < x then v else x) :: st) σ kn) : PS M pc lv (.int v :: .int x :: st) σ kn := by
  obtain ⟨p, l, e, R, s, m, args, below, meth, c, V, nL, Q⟩ := M
  intro ls H locs hl hG hS
  obtain ⟨hx, hb, hml, hown, hts, hr, hlk, hK, rfl, rfl, hw, hX⟩ := C
  obtain ⟨k1, k2, k3, k4⟩ := k
  have e : (st.map (cv V)).map (fun v => v.category) = st.map (fun v => v.category) := by rw [List.map_map]; exact List.map_congr_left (fun v _ => cv_cat V v)
  exact va_mmin hx hb (hml.trans hl.1.symm) hown (hts _ k1) (hts _ k2) (hts _ k3) (hts _ k4) hR (by rw [e]; exact hL) hf.1 hf.2 hd (h ls H locs hl hG hS)
theorem P_nm (h : ∀ σ' : Sg, σ' = σ → PS M pc lv st σ' kn) : PS M pc lv st σ kn := h σ rfl
theorem P_nmi {x : Int32} (h : ∀ v : Int32, v = x → PS M pc lv (.int v :: st) σ kn) : PS M pc lv (.int x :: st) σ kn := h x rfl
theorem P_nml {x : Int64} (h : ∀ v : Int64, v = x → PS M pc lv (.long v :: st) σ kn) : PS M pc lv (.long x :: st) σ kn := h x rfl
end Calls
