/-! the world that the constructors leave -/
noncomputable def stZ : Nat → Int32 := fun _ => 0
noncomputable def stL : Nat → Int32 := upd (upd (upd (upd (upd (upd (upd (upd (upd (upd (upd (upd (upd (upd (upd (upd (upd (upd (upd (fun _ => 0) 0 (102 : Int32)) 1 (97 : Int32)) 2 (115 : Int32)) 3 (116 : Int32)) 4 (115 : Int32)) 5 (108 : Int32)) 6 (111 : Int32)) 7 (119 : Int32)) 8 (103 : Int32)) 9 (97 : Int32)) 10 (112 : Int32)) 11 (116 : Int32)) 12 (105 : Int32)) 13 (114 : Int32)) 14 (101 : Int32)) 15 (108 : Int32)) 16 (111 : Int32)) 17 (110 : Int32)) 18 (103 : Int32)
noncomputable def stS : Nat → Int32 := upd (upd (upd (upd (upd (upd (fun _ => 0) 0 (-1 : Int32)) 1 (-1 : Int32)) 2 (-1 : Int32)) 3 (-1 : Int32)) 4 (-1 : Int32)) 5 (-1 : Int32)
noncomputable def stF : Nat → Int32 := fun j => if j = 0 then 2 else if j = 1 then 1 else if j = 2 then 60 else 0
noncomputable def stM : Nat → Int32 := fun j => if j = 12 then -1 else if j = 28 then -1 else if j = 50 then -1 else 0
noncomputable def stC : Nat → Int32 := fun j => if j = 11 then -1 else 0
noncomputable def stT : Nat → Int32 := fun j => if j = 1 then -1 else 0
noncomputable def stI : Nat → Nat → Int32 := fun id => if id = 69 then stF else if id = 74 then stM else if id = 127 then stL else if id = 171 then stS else if id = 1 then stC else if id = 17 then stC else if id = 33 then stC else if id = 52 then stT else if id = 54 then stT else if id = 56 then stT else if id = 58 then stT else if id = 60 then stT else if id = 62 then stT else stZ
noncomputable def stRn : Nat → Option Nat := fun _ => none
noncomputable def stRc : Nat → Option Nat := fun j => if j = 10 then some 69 else none
noncomputable def stR : Nat → Nat → Option Nat := fun id => if id = 1 then stRc else if id = 17 then stRc else if id = 33 then stRc else stRn
noncomputable def st0 : Sg := (stI, fun _ _ => 0, stR)
/-- the cells' addresses -/
noncomputable def stV (V : Vx) (Q : List Nat) : Vx := (vD V, vC V, vA V, (fun id => if id < 175 then Q.getD id 0 else va V id), [], vX V)
theorem stV_hi {V : Vx} {Q : List Nat} {id : Nat} (h : 175 ≤ id) : va (stV V Q) id = va V id := by
  show (if id < 175 then Q.getD id 0 else va V id) = _
  rw [if_neg (by omega)]
theorem stV_fix {V : Vx} {Q : List Nat} : ids (stV V Q) = fixL := List.append_nil _
noncomputable def stO : List Nat := [0, 1, 2, 3, 4, 5, 6, 7, 8, 9, 10, 11, 12, 13, 14, 15, 16, 17, 18, 19, 20, 21, 22, 23, 24, 25, 26, 27, 28, 29, 30, 31, 32, 33, 34, 35, 36, 37, 38, 39, 40, 41, 42, 43, 44, 45, 46, 47, 48, 49, 50, 51, 64, 65, 66, 67, 68, 69, 70, 71, 72, 73, 52, 53, 54, 55, 56, 57, 58, 59, 60, 61, 62, 63, 74, 103, 104, 105, 106, 107, 108, 109, 110, 116, 117, 118, 119, 120, 121, 122, 123, 127, 129, 131, 132, 134, 135, 136, 137, 138, 139, 140, 142, 143, 144, 147, 148, 156, 157, 158, 159, 160, 161, 162, 163, 164, 165, 166, 167, 168, 170, 171, 172, 173, 174]
theorem stO_perm : stO.Perm fixL := by decide +kernel
theorem stO_lt : ∀ id ∈ stO, id < 175 := by decide +kernel
/-- cells, each as good as what the raw world holds at its address -/
theorem st_GH {V : Vx} {Q : List Nat} {ω : RWd} {H : Heap} {L : List (Nat × va_E)} (hG : GRH V ω H) (hm : ∀ x ∈ L, x.1 ∈ ω.1 ∧ ω.2 x.1 = x.2) (hn : (L.map (fun x => x.1)).Nodup) (hL : L.map (fun x => x.1) = stO.map (fun id => va (stV V Q) id)) (hE : ∀ y ∈ stO.zip L, EQV y.2.2 (ct (stV V Q) st0 y.1)) : GH (stV V Q) st0 H := by
  have hlen : L.length = stO.length := by
    have := congrArg List.length hL
    rwa [List.length_map, List.length_map] at this
  have hat : ∀ x ∈ L, va_at (vD V) vwCl x H ∧ vA V x.1 := fun x hx => by
    obtain ⟨h1, h2⟩ := hm x hx
    obtain ⟨i, hi⟩ := rc_at h1
    rw [h2] at hi
    exact ⟨hG.1 i _ hi, hG.2.2 i _ hi⟩
  have hall : ∀ id ∈ fixL, va_at (vD V) vwCl (va (stV V Q) id, ct (stV V Q) st0 id) H ∧ vA V (va (stV V Q) id) := fun id hid => by
    obtain ⟨i, hi⟩ := List.getElem?_of_mem (stO_perm.mem_iff.mpr hid)
    obtain ⟨l1, e1⟩ := List.getElem?_eq_some_iff.mp hi
    have l2 : i < L.length := by omega
    have e2 : L[i]? = some L[i] := List.getElem?_eq_getElem l2
    have e3 : (L[i]).1 = va (stV V Q) id := by
      have h1 : (L.map (fun x => x.1))[i]? = some (L[i]).1 := by rw [List.getElem?_map, e2]; rfl
      have h2 : (stO.map (fun id => va (stV V Q) id))[i]? = some (va (stV V Q) id) := by rw [List.getElem?_map, hi]; rfl
      rw [hL, h2] at h1
      exact (Option.some.inj h1).symm
    have hz : (id, L[i]) ∈ stO.zip L := by
      refine List.mem_of_getElem? (i := i) ?_
      rw [List.getElem?_zip_eq_some]
      exact ⟨hi, e2⟩
    obtain ⟨a1, a2⟩ := hat _ (List.mem_of_getElem? e2)
    have k := hE _ hz (vD V) (L[i]).1 H a1
    rw [e3] at k a2
    exact ⟨k, a2⟩
  refine ⟨fun k q hq => ?_, va_D_of ?_ (fun q hq => ?_), fun f hf hk => ?_⟩
  · obtain ⟨id, hi, rfl⟩ := List.mem_map.mp (List.mem_of_getElem? hq)
    rw [stV_fix] at hi
    exact (hall id hi).1
  · unfold cells
    rw [List.map_map, stV_fix]
    rw [hL] at hn
    exact (stO_perm.map (fun id => va (stV V Q) id)).nodup_iff.mp hn
  · obtain ⟨id, hi, rfl⟩ := List.mem_map.mp hq
    rw [stV_fix] at hi
    exact (hall id hi).2
  · rw [stV_fix] at hf ⊢
    exact (show ∀ f ∈ fixL, kd f = (12, 0) → f + 1 ∈ fixL ∧ f + 2 ∈ fixL ∧ f + 3 ∈ fixL ∧ f + 4 ∈ fixL by decide +kernel) f hf hk
