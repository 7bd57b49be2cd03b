/-! what is known at the law's entry -/
theorem st_no {args : Array Value} {s : State} {C T : String} {c t : ClassId} (h : (Cond.not (.castable C T)).before args s = true) (hc : s.vm.findClass C = some c) (ht : s.vm.findClass T = some t) : s.vm.assignable c t = false := by
  cases hb : s.vm.assignable c t with
  | false => rfl
  | true => simp [Cond.before, Cond.holds, Cond.value, hc, ht, hb] at h
theorem st_arr {args : Array Value} {s : State} {ty : FieldType} (h : (Cond.arrayClass ty).before args s = true) : ∃ cA, ArrOfT s cA ty ∧ s.vm.findClass ("[" ++ ty.toString) = some cA := by
  simp only [Cond.before, Cond.holds, Cond.value] at h
  cases hc : s.vm.findClass ("[" ++ ty.toString) with
  | none => simp [hc] at h
  | some c =>
    cases hk : s.vm.classes[c]? with
    | none => simp [hc, hk] at h
    | some k =>
      simp [hc, hk] at h
      cases hkind : k.kind with
      | array comp t => rw [hkind] at h; simp at h; subst h; exact ⟨c, fun n z => ⟨fun k h => (by cases h), k, hk, comp, hkind⟩, rfl⟩
      | _ => rw [hkind] at h; simp at h
theorem st_over {args : Array Value} {s : State} {n : String} (h : (Cond.arrayOver (.object n)).before args s = true) : ∃ cA, ArrOfT s cA (.object n) ∧ va_RA s cA (.object n) := by
  obtain ⟨comp, c, k, h1, h2, h3, h4, h5⟩ := Cond.arrayOver_spec h
  exact ⟨c, fun N z => ⟨fun k h => (by cases h), k, h3, comp, h4⟩, k, comp, h3, h4, h1, h5⟩
theorem st_ik_0_0 {b : Nat} {s : State} (hts : ∀ w ∈ lw_tbl, w.before #[Value.ref b] s = true) (hgv : (Jvm.Cond.and given_1 narrow_1).before #[Value.ref b] s = true) {c t : ClassId} (hc : s.vm.findClass (mnm 0) = some c) (ht : s.vm.findClass (mnm 0) = some t) : s.vm.assignable c t = msub 0 0 := vb_asgS t c ht hc
theorem st_ik_0_3 {b : Nat} {s : State} (hts : ∀ w ∈ lw_tbl, w.before #[Value.ref b] s = true) (hgv : (Jvm.Cond.and given_1 narrow_1).before #[Value.ref b] s = true) {c t : ClassId} (hc : s.vm.findClass (mnm 0) = some c) (ht : s.vm.findClass (mnm 3) = some t) : s.vm.assignable c t = msub 0 3 := st_no (flat_of_before _ hgv (Jvm.Cond.not (Jvm.Cond.castable "NineMowers$Boy" "NineMowers$Hasty")) (by decide +kernel)) hc ht
theorem st_ik_0_4 {b : Nat} {s : State} (hts : ∀ w ∈ lw_tbl, w.before #[Value.ref b] s = true) (hgv : (Jvm.Cond.and given_1 narrow_1).before #[Value.ref b] s = true) {c t : ClassId} (hc : s.vm.findClass (mnm 0) = some c) (ht : s.vm.findClass (mnm 4) = some t) : s.vm.assignable c t = msub 0 4 := vb_asgC (va_Nw.of rfl (hts (Cond.castable "NineMowers$Boy" "NineMowers$Mower") (List.mem_append_right _ (List.mem_of_getElem? (i := 1610) (by decide +kernel))))) t c ht hc
theorem st_ik_0_6 {b : Nat} {s : State} (hts : ∀ w ∈ lw_tbl, w.before #[Value.ref b] s = true) (hgv : (Jvm.Cond.and given_1 narrow_1).before #[Value.ref b] s = true) {c t : ClassId} (hc : s.vm.findClass (mnm 0) = some c) (ht : s.vm.findClass (mnm 6) = some t) : s.vm.assignable c t = msub 0 6 := st_no (flat_of_before _ hgv (Jvm.Cond.not (Jvm.Cond.castable "NineMowers$Boy" "NineMowers$Old")) (by decide +kernel)) hc ht
theorem st_ik_0_7 {b : Nat} {s : State} (hts : ∀ w ∈ lw_tbl, w.before #[Value.ref b] s = true) (hgv : (Jvm.Cond.and given_1 narrow_1).before #[Value.ref b] s = true) {c t : ClassId} (hc : s.vm.findClass (mnm 0) = some c) (ht : s.vm.findClass (mnm 7) = some t) : s.vm.assignable c t = msub 0 7 := st_no (flat_of_before _ hgv (Jvm.Cond.not (Jvm.Cond.castable "NineMowers$Boy" "NineMowers$Pressed")) (by decide +kernel)) hc ht
theorem st_ik_0_8 {b : Nat} {s : State} (hts : ∀ w ∈ lw_tbl, w.before #[Value.ref b] s = true) (hgv : (Jvm.Cond.and given_1 narrow_1).before #[Value.ref b] s = true) {c t : ClassId} (hc : s.vm.findClass (mnm 0) = some c) (ht : s.vm.findClass (mnm 8) = some t) : s.vm.assignable c t = msub 0 8 := st_no (flat_of_before _ hgv (Jvm.Cond.not (Jvm.Cond.castable "NineMowers$Boy" "NineMowers$Steady")) (by decide +kernel)) hc ht
theorem st_ik_0_10 {b : Nat} {s : State} (hts : ∀ w ∈ lw_tbl, w.before #[Value.ref b] s = true) (hgv : (Jvm.Cond.and given_1 narrow_1).before #[Value.ref b] s = true) {c t : ClassId} (hc : s.vm.findClass (mnm 0) = some c) (ht : s.vm.findClass (mnm 10) = some t) : s.vm.assignable c t = msub 0 10 := st_no (flat_of_before _ hgv (Jvm.Cond.not (Jvm.Cond.castable "NineMowers$Boy" "NineMowers$Told")) (by decide +kernel)) hc ht
theorem st_ik_3_0 {b : Nat} {s : State} (hts : ∀ w ∈ lw_tbl, w.before #[Value.ref b] s = true) (hgv : (Jvm.Cond.and given_1 narrow_1).before #[Value.ref b] s = true) {c t : ClassId} (hc : s.vm.findClass (mnm 3) = some c) (ht : s.vm.findClass (mnm 0) = some t) : s.vm.assignable c t = msub 3 0 := st_no (flat_of_before _ hgv (Jvm.Cond.not (Jvm.Cond.castable "NineMowers$Hasty" "NineMowers$Boy")) (by decide +kernel)) hc ht
theorem st_ik_3_3 {b : Nat} {s : State} (hts : ∀ w ∈ lw_tbl, w.before #[Value.ref b] s = true) (hgv : (Jvm.Cond.and given_1 narrow_1).before #[Value.ref b] s = true) {c t : ClassId} (hc : s.vm.findClass (mnm 3) = some c) (ht : s.vm.findClass (mnm 3) = some t) : s.vm.assignable c t = msub 3 3 := vb_asgS t c ht hc
theorem st_ik_3_4 {b : Nat} {s : State} (hts : ∀ w ∈ lw_tbl, w.before #[Value.ref b] s = true) (hgv : (Jvm.Cond.and given_1 narrow_1).before #[Value.ref b] s = true) {c t : ClassId} (hc : s.vm.findClass (mnm 3) = some c) (ht : s.vm.findClass (mnm 4) = some t) : s.vm.assignable c t = msub 3 4 := vb_asgC (va_Nw.of rfl (hts (Cond.castable "NineMowers$Hasty" "NineMowers$Mower") (List.mem_append_right _ (List.mem_of_getElem? (i := 1609) (by decide +kernel))))) t c ht hc
theorem st_ik_3_6 {b : Nat} {s : State} (hts : ∀ w ∈ lw_tbl, w.before #[Value.ref b] s = true) (hgv : (Jvm.Cond.and given_1 narrow_1).before #[Value.ref b] s = true) {c t : ClassId} (hc : s.vm.findClass (mnm 3) = some c) (ht : s.vm.findClass (mnm 6) = some t) : s.vm.assignable c t = msub 3 6 := st_no (flat_of_before _ hgv (Jvm.Cond.not (Jvm.Cond.castable "NineMowers$Hasty" "NineMowers$Old")) (by decide +kernel)) hc ht
theorem st_ik_3_7 {b : Nat} {s : State} (hts : ∀ w ∈ lw_tbl, w.before #[Value.ref b] s = true) (hgv : (Jvm.Cond.and given_1 narrow_1).before #[Value.ref b] s = true) {c t : ClassId} (hc : s.vm.findClass (mnm 3) = some c) (ht : s.vm.findClass (mnm 7) = some t) : s.vm.assignable c t = msub 3 7 := st_no (flat_of_before _ hgv (Jvm.Cond.not (Jvm.Cond.castable "NineMowers$Hasty" "NineMowers$Pressed")) (by decide +kernel)) hc ht
theorem st_ik_3_8 {b : Nat} {s : State} (hts : ∀ w ∈ lw_tbl, w.before #[Value.ref b] s = true) (hgv : (Jvm.Cond.and given_1 narrow_1).before #[Value.ref b] s = true) {c t : ClassId} (hc : s.vm.findClass (mnm 3) = some c) (ht : s.vm.findClass (mnm 8) = some t) : s.vm.assignable c t = msub 3 8 := st_no (flat_of_before _ hgv (Jvm.Cond.not (Jvm.Cond.castable "NineMowers$Hasty" "NineMowers$Steady")) (by decide +kernel)) hc ht
theorem st_ik_3_10 {b : Nat} {s : State} (hts : ∀ w ∈ lw_tbl, w.before #[Value.ref b] s = true) (hgv : (Jvm.Cond.and given_1 narrow_1).before #[Value.ref b] s = true) {c t : ClassId} (hc : s.vm.findClass (mnm 3) = some c) (ht : s.vm.findClass (mnm 10) = some t) : s.vm.assignable c t = msub 3 10 := st_no (flat_of_before _ hgv (Jvm.Cond.not (Jvm.Cond.castable "NineMowers$Hasty" "NineMowers$Told")) (by decide +kernel)) hc ht
theorem st_ik_4_0 {b : Nat} {s : State} (hts : ∀ w ∈ lw_tbl, w.before #[Value.ref b] s = true) (hgv : (Jvm.Cond.and given_1 narrow_1).before #[Value.ref b] s = true) {c t : ClassId} (hc : s.vm.findClass (mnm 4) = some c) (ht : s.vm.findClass (mnm 0) = some t) : s.vm.assignable c t = msub 4 0 := st_no (flat_of_before _ hgv (Jvm.Cond.not (Jvm.Cond.castable "NineMowers$Mower" "NineMowers$Boy")) (by decide +kernel)) hc ht
theorem st_ik_4_3 {b : Nat} {s : State} (hts : ∀ w ∈ lw_tbl, w.before #[Value.ref b] s = true) (hgv : (Jvm.Cond.and given_1 narrow_1).before #[Value.ref b] s = true) {c t : ClassId} (hc : s.vm.findClass (mnm 4) = some c) (ht : s.vm.findClass (mnm 3) = some t) : s.vm.assignable c t = msub 4 3 := st_no (flat_of_before _ hgv (Jvm.Cond.not (Jvm.Cond.castable "NineMowers$Mower" "NineMowers$Hasty")) (by decide +kernel)) hc ht
theorem st_ik_4_4 {b : Nat} {s : State} (hts : ∀ w ∈ lw_tbl, w.before #[Value.ref b] s = true) (hgv : (Jvm.Cond.and given_1 narrow_1).before #[Value.ref b] s = true) {c t : ClassId} (hc : s.vm.findClass (mnm 4) = some c) (ht : s.vm.findClass (mnm 4) = some t) : s.vm.assignable c t = msub 4 4 := vb_asgS t c ht hc
theorem st_ik_4_6 {b : Nat} {s : State} (hts : ∀ w ∈ lw_tbl, w.before #[Value.ref b] s = true) (hgv : (Jvm.Cond.and given_1 narrow_1).before #[Value.ref b] s = true) {c t : ClassId} (hc : s.vm.findClass (mnm 4) = some c) (ht : s.vm.findClass (mnm 6) = some t) : s.vm.assignable c t = msub 4 6 := st_no (flat_of_before _ hgv (Jvm.Cond.not (Jvm.Cond.castable "NineMowers$Mower" "NineMowers$Old")) (by decide +kernel)) hc ht
theorem st_ik_4_7 {b : Nat} {s : State} (hts : ∀ w ∈ lw_tbl, w.before #[Value.ref b] s = true) (hgv : (Jvm.Cond.and given_1 narrow_1).before #[Value.ref b] s = true) {c t : ClassId} (hc : s.vm.findClass (mnm 4) = some c) (ht : s.vm.findClass (mnm 7) = some t) : s.vm.assignable c t = msub 4 7 := st_no (flat_of_before _ hgv (Jvm.Cond.not (Jvm.Cond.castable "NineMowers$Mower" "NineMowers$Pressed")) (by decide +kernel)) hc ht
theorem st_ik_4_8 {b : Nat} {s : State} (hts : ∀ w ∈ lw_tbl, w.before #[Value.ref b] s = true) (hgv : (Jvm.Cond.and given_1 narrow_1).before #[Value.ref b] s = true) {c t : ClassId} (hc : s.vm.findClass (mnm 4) = some c) (ht : s.vm.findClass (mnm 8) = some t) : s.vm.assignable c t = msub 4 8 := st_no (flat_of_before _ hgv (Jvm.Cond.not (Jvm.Cond.castable "NineMowers$Mower" "NineMowers$Steady")) (by decide +kernel)) hc ht
theorem st_ik_4_10 {b : Nat} {s : State} (hts : ∀ w ∈ lw_tbl, w.before #[Value.ref b] s = true) (hgv : (Jvm.Cond.and given_1 narrow_1).before #[Value.ref b] s = true) {c t : ClassId} (hc : s.vm.findClass (mnm 4) = some c) (ht : s.vm.findClass (mnm 10) = some t) : s.vm.assignable c t = msub 4 10 := st_no (flat_of_before _ hgv (Jvm.Cond.not (Jvm.Cond.castable "NineMowers$Mower" "NineMowers$Told")) (by decide +kernel)) hc ht
theorem st_ik_6_0 {b : Nat} {s : State} (hts : ∀ w ∈ lw_tbl, w.before #[Value.ref b] s = true) (hgv : (Jvm.Cond.and given_1 narrow_1).before #[Value.ref b] s = true) {c t : ClassId} (hc : s.vm.findClass (mnm 6) = some c) (ht : s.vm.findClass (mnm 0) = some t) : s.vm.assignable c t = msub 6 0 := st_no (flat_of_before _ hgv (Jvm.Cond.not (Jvm.Cond.castable "NineMowers$Old" "NineMowers$Boy")) (by decide +kernel)) hc ht
theorem st_ik_6_3 {b : Nat} {s : State} (hts : ∀ w ∈ lw_tbl, w.before #[Value.ref b] s = true) (hgv : (Jvm.Cond.and given_1 narrow_1).before #[Value.ref b] s = true) {c t : ClassId} (hc : s.vm.findClass (mnm 6) = some c) (ht : s.vm.findClass (mnm 3) = some t) : s.vm.assignable c t = msub 6 3 := st_no (flat_of_before _ hgv (Jvm.Cond.not (Jvm.Cond.castable "NineMowers$Old" "NineMowers$Hasty")) (by decide +kernel)) hc ht
theorem st_ik_6_4 {b : Nat} {s : State} (hts : ∀ w ∈ lw_tbl, w.before #[Value.ref b] s = true) (hgv : (Jvm.Cond.and given_1 narrow_1).before #[Value.ref b] s = true) {c t : ClassId} (hc : s.vm.findClass (mnm 6) = some c) (ht : s.vm.findClass (mnm 4) = some t) : s.vm.assignable c t = msub 6 4 := vb_asgC (va_Nw.of rfl (hts (Cond.castable "NineMowers$Old" "NineMowers$Mower") (List.mem_append_right _ (List.mem_of_getElem? (i := 1611) (by decide +kernel))))) t c ht hc
theorem st_ik_6_6 {b : Nat} {s : State} (hts : ∀ w ∈ lw_tbl, w.before #[Value.ref b] s = true) (hgv : (Jvm.Cond.and given_1 narrow_1).before #[Value.ref b] s = true) {c t : ClassId} (hc : s.vm.findClass (mnm 6) = some c) (ht : s.vm.findClass (mnm 6) = some t) : s.vm.assignable c t = msub 6 6 := vb_asgS t c ht hc
theorem st_ik_6_7 {b : Nat} {s : State} (hts : ∀ w ∈ lw_tbl, w.before #[Value.ref b] s = true) (hgv : (Jvm.Cond.and given_1 narrow_1).before #[Value.ref b] s = true) {c t : ClassId} (hc : s.vm.findClass (mnm 6) = some c) (ht : s.vm.findClass (mnm 7) = some t) : s.vm.assignable c t = msub 6 7 := st_no (flat_of_before _ hgv (Jvm.Cond.not (Jvm.Cond.castable "NineMowers$Old" "NineMowers$Pressed")) (by decide +kernel)) hc ht
theorem st_ik_6_8 {b : Nat} {s : State} (hts : ∀ w ∈ lw_tbl, w.before #[Value.ref b] s = true) (hgv : (Jvm.Cond.and given_1 narrow_1).before #[Value.ref b] s = true) {c t : ClassId} (hc : s.vm.findClass (mnm 6) = some c) (ht : s.vm.findClass (mnm 8) = some t) : s.vm.assignable c t = msub 6 8 := vb_asgC (va_Nw.of rfl (hts (Cond.castable "NineMowers$Old" "NineMowers$Steady") (List.mem_append_right _ (List.mem_of_getElem? (i := 1605) (by decide +kernel))))) t c ht hc
theorem st_ik_6_10 {b : Nat} {s : State} (hts : ∀ w ∈ lw_tbl, w.before #[Value.ref b] s = true) (hgv : (Jvm.Cond.and given_1 narrow_1).before #[Value.ref b] s = true) {c t : ClassId} (hc : s.vm.findClass (mnm 6) = some c) (ht : s.vm.findClass (mnm 10) = some t) : s.vm.assignable c t = msub 6 10 := st_no (flat_of_before _ hgv (Jvm.Cond.not (Jvm.Cond.castable "NineMowers$Old" "NineMowers$Told")) (by decide +kernel)) hc ht
theorem st_ik_7_0 {b : Nat} {s : State} (hts : ∀ w ∈ lw_tbl, w.before #[Value.ref b] s = true) (hgv : (Jvm.Cond.and given_1 narrow_1).before #[Value.ref b] s = true) {c t : ClassId} (hc : s.vm.findClass (mnm 7) = some c) (ht : s.vm.findClass (mnm 0) = some t) : s.vm.assignable c t = msub 7 0 := st_no (flat_of_before _ hgv (Jvm.Cond.not (Jvm.Cond.castable "NineMowers$Pressed" "NineMowers$Boy")) (by decide +kernel)) hc ht
theorem st_ik_7_3 {b : Nat} {s : State} (hts : ∀ w ∈ lw_tbl, w.before #[Value.ref b] s = true) (hgv : (Jvm.Cond.and given_1 narrow_1).before #[Value.ref b] s = true) {c t : ClassId} (hc : s.vm.findClass (mnm 7) = some c) (ht : s.vm.findClass (mnm 3) = some t) : s.vm.assignable c t = msub 7 3 := vb_asgC (va_Nw.of rfl (hts (Cond.castable "NineMowers$Pressed" "NineMowers$Hasty") (List.mem_append_right _ (List.mem_of_getElem? (i := 1606) (by decide +kernel))))) t c ht hc
theorem st_ik_7_4 {b : Nat} {s : State} (hts : ∀ w ∈ lw_tbl, w.before #[Value.ref b] s = true) (hgv : (Jvm.Cond.and given_1 narrow_1).before #[Value.ref b] s = true) {c t : ClassId} (hc : s.vm.findClass (mnm 7) = some c) (ht : s.vm.findClass (mnm 4) = some t) : s.vm.assignable c t = msub 7 4 := vb_asgC (va_Nw.of rfl (hts (Cond.castable "NineMowers$Pressed" "NineMowers$Mower") (List.mem_append_right _ (List.mem_of_getElem? (i := 1612) (by decide +kernel))))) t c ht hc
theorem st_ik_7_6 {b : Nat} {s : State} (hts : ∀ w ∈ lw_tbl, w.before #[Value.ref b] s = true) (hgv : (Jvm.Cond.and given_1 narrow_1).before #[Value.ref b] s = true) {c t : ClassId} (hc : s.vm.findClass (mnm 7) = some c) (ht : s.vm.findClass (mnm 6) = some t) : s.vm.assignable c t = msub 7 6 := st_no (flat_of_before _ hgv (Jvm.Cond.not (Jvm.Cond.castable "NineMowers$Pressed" "NineMowers$Old")) (by decide +kernel)) hc ht
theorem st_ik_7_7 {b : Nat} {s : State} (hts : ∀ w ∈ lw_tbl, w.before #[Value.ref b] s = true) (hgv : (Jvm.Cond.and given_1 narrow_1).before #[Value.ref b] s = true) {c t : ClassId} (hc : s.vm.findClass (mnm 7) = some c) (ht : s.vm.findClass (mnm 7) = some t) : s.vm.assignable c t = msub 7 7 := vb_asgS t c ht hc
theorem st_ik_7_8 {b : Nat} {s : State} (hts : ∀ w ∈ lw_tbl, w.before #[Value.ref b] s = true) (hgv : (Jvm.Cond.and given_1 narrow_1).before #[Value.ref b] s = true) {c t : ClassId} (hc : s.vm.findClass (mnm 7) = some c) (ht : s.vm.findClass (mnm 8) = some t) : s.vm.assignable c t = msub 7 8 := st_no (flat_of_before _ hgv (Jvm.Cond.not (Jvm.Cond.castable "NineMowers$Pressed" "NineMowers$Steady")) (by decide +kernel)) hc ht
theorem st_ik_7_10 {b : Nat} {s : State} (hts : ∀ w ∈ lw_tbl, w.before #[Value.ref b] s = true) (hgv : (Jvm.Cond.and given_1 narrow_1).before #[Value.ref b] s = true) {c t : ClassId} (hc : s.vm.findClass (mnm 7) = some c) (ht : s.vm.findClass (mnm 10) = some t) : s.vm.assignable c t = msub 7 10 := st_no (flat_of_before _ hgv (Jvm.Cond.not (Jvm.Cond.castable "NineMowers$Pressed" "NineMowers$Told")) (by decide +kernel)) hc ht
theorem st_ik_8_0 {b : Nat} {s : State} (hts : ∀ w ∈ lw_tbl, w.before #[Value.ref b] s = true) (hgv : (Jvm.Cond.and given_1 narrow_1).before #[Value.ref b] s = true) {c t : ClassId} (hc : s.vm.findClass (mnm 8) = some c) (ht : s.vm.findClass (mnm 0) = some t) : s.vm.assignable c t = msub 8 0 := st_no (flat_of_before _ hgv (Jvm.Cond.not (Jvm.Cond.castable "NineMowers$Steady" "NineMowers$Boy")) (by decide +kernel)) hc ht
theorem st_ik_8_3 {b : Nat} {s : State} (hts : ∀ w ∈ lw_tbl, w.before #[Value.ref b] s = true) (hgv : (Jvm.Cond.and given_1 narrow_1).before #[Value.ref b] s = true) {c t : ClassId} (hc : s.vm.findClass (mnm 8) = some c) (ht : s.vm.findClass (mnm 3) = some t) : s.vm.assignable c t = msub 8 3 := st_no (flat_of_before _ hgv (Jvm.Cond.not (Jvm.Cond.castable "NineMowers$Steady" "NineMowers$Hasty")) (by decide +kernel)) hc ht
theorem st_ik_8_4 {b : Nat} {s : State} (hts : ∀ w ∈ lw_tbl, w.before #[Value.ref b] s = true) (hgv : (Jvm.Cond.and given_1 narrow_1).before #[Value.ref b] s = true) {c t : ClassId} (hc : s.vm.findClass (mnm 8) = some c) (ht : s.vm.findClass (mnm 4) = some t) : s.vm.assignable c t = msub 8 4 := vb_asgC (va_Nw.of rfl (hts (Cond.castable "NineMowers$Steady" "NineMowers$Mower") (List.mem_append_right _ (List.mem_of_getElem? (i := 1608) (by decide +kernel))))) t c ht hc
theorem st_ik_8_6 {b : Nat} {s : State} (hts : ∀ w ∈ lw_tbl, w.before #[Value.ref b] s = true) (hgv : (Jvm.Cond.and given_1 narrow_1).before #[Value.ref b] s = true) {c t : ClassId} (hc : s.vm.findClass (mnm 8) = some c) (ht : s.vm.findClass (mnm 6) = some t) : s.vm.assignable c t = msub 8 6 := st_no (flat_of_before _ hgv (Jvm.Cond.not (Jvm.Cond.castable "NineMowers$Steady" "NineMowers$Old")) (by decide +kernel)) hc ht
theorem st_ik_8_7 {b : Nat} {s : State} (hts : ∀ w ∈ lw_tbl, w.before #[Value.ref b] s = true) (hgv : (Jvm.Cond.and given_1 narrow_1).before #[Value.ref b] s = true) {c t : ClassId} (hc : s.vm.findClass (mnm 8) = some c) (ht : s.vm.findClass (mnm 7) = some t) : s.vm.assignable c t = msub 8 7 := st_no (flat_of_before _ hgv (Jvm.Cond.not (Jvm.Cond.castable "NineMowers$Steady" "NineMowers$Pressed")) (by decide +kernel)) hc ht
theorem st_ik_8_8 {b : Nat} {s : State} (hts : ∀ w ∈ lw_tbl, w.before #[Value.ref b] s = true) (hgv : (Jvm.Cond.and given_1 narrow_1).before #[Value.ref b] s = true) {c t : ClassId} (hc : s.vm.findClass (mnm 8) = some c) (ht : s.vm.findClass (mnm 8) = some t) : s.vm.assignable c t = msub 8 8 := vb_asgS t c ht hc
theorem st_ik_8_10 {b : Nat} {s : State} (hts : ∀ w ∈ lw_tbl, w.before #[Value.ref b] s = true) (hgv : (Jvm.Cond.and given_1 narrow_1).before #[Value.ref b] s = true) {c t : ClassId} (hc : s.vm.findClass (mnm 8) = some c) (ht : s.vm.findClass (mnm 10) = some t) : s.vm.assignable c t = msub 8 10 := st_no (flat_of_before _ hgv (Jvm.Cond.not (Jvm.Cond.castable "NineMowers$Steady" "NineMowers$Told")) (by decide +kernel)) hc ht
theorem st_ik_10_0 {b : Nat} {s : State} (hts : ∀ w ∈ lw_tbl, w.before #[Value.ref b] s = true) (hgv : (Jvm.Cond.and given_1 narrow_1).before #[Value.ref b] s = true) {c t : ClassId} (hc : s.vm.findClass (mnm 10) = some c) (ht : s.vm.findClass (mnm 0) = some t) : s.vm.assignable c t = msub 10 0 := vb_asgC (va_Nw.of rfl (hts (Cond.castable "NineMowers$Told" "NineMowers$Boy") (List.mem_append_right _ (List.mem_of_getElem? (i := 1607) (by decide +kernel))))) t c ht hc
theorem st_ik_10_3 {b : Nat} {s : State} (hts : ∀ w ∈ lw_tbl, w.before #[Value.ref b] s = true) (hgv : (Jvm.Cond.and given_1 narrow_1).before #[Value.ref b] s = true) {c t : ClassId} (hc : s.vm.findClass (mnm 10) = some c) (ht : s.vm.findClass (mnm 3) = some t) : s.vm.assignable c t = msub 10 3 := st_no (flat_of_before _ hgv (Jvm.Cond.not (Jvm.Cond.castable "NineMowers$Told" "NineMowers$Hasty")) (by decide +kernel)) hc ht
theorem st_ik_10_4 {b : Nat} {s : State} (hts : ∀ w ∈ lw_tbl, w.before #[Value.ref b] s = true) (hgv : (Jvm.Cond.and given_1 narrow_1).before #[Value.ref b] s = true) {c t : ClassId} (hc : s.vm.findClass (mnm 10) = some c) (ht : s.vm.findClass (mnm 4) = some t) : s.vm.assignable c t = msub 10 4 := vb_asgC (va_Nw.of rfl (hts (Cond.castable "NineMowers$Told" "NineMowers$Mower") (List.mem_append_right _ (List.mem_of_getElem? (i := 1613) (by decide +kernel))))) t c ht hc
theorem st_ik_10_6 {b : Nat} {s : State} (hts : ∀ w ∈ lw_tbl, w.before #[Value.ref b] s = true) (hgv : (Jvm.Cond.and given_1 narrow_1).before #[Value.ref b] s = true) {c t : ClassId} (hc : s.vm.findClass (mnm 10) = some c) (ht : s.vm.findClass (mnm 6) = some t) : s.vm.assignable c t = msub 10 6 := st_no (flat_of_before _ hgv (Jvm.Cond.not (Jvm.Cond.castable "NineMowers$Told" "NineMowers$Old")) (by decide +kernel)) hc ht
theorem st_ik_10_7 {b : Nat} {s : State} (hts : ∀ w ∈ lw_tbl, w.before #[Value.ref b] s = true) (hgv : (Jvm.Cond.and given_1 narrow_1).before #[Value.ref b] s = true) {c t : ClassId} (hc : s.vm.findClass (mnm 10) = some c) (ht : s.vm.findClass (mnm 7) = some t) : s.vm.assignable c t = msub 10 7 := st_no (flat_of_before _ hgv (Jvm.Cond.not (Jvm.Cond.castable "NineMowers$Told" "NineMowers$Pressed")) (by decide +kernel)) hc ht
theorem st_ik_10_8 {b : Nat} {s : State} (hts : ∀ w ∈ lw_tbl, w.before #[Value.ref b] s = true) (hgv : (Jvm.Cond.and given_1 narrow_1).before #[Value.ref b] s = true) {c t : ClassId} (hc : s.vm.findClass (mnm 10) = some c) (ht : s.vm.findClass (mnm 8) = some t) : s.vm.assignable c t = msub 10 8 := st_no (flat_of_before _ hgv (Jvm.Cond.not (Jvm.Cond.castable "NineMowers$Told" "NineMowers$Steady")) (by decide +kernel)) hc ht
theorem st_ik_10_10 {b : Nat} {s : State} (hts : ∀ w ∈ lw_tbl, w.before #[Value.ref b] s = true) (hgv : (Jvm.Cond.and given_1 narrow_1).before #[Value.ref b] s = true) {c t : ClassId} (hc : s.vm.findClass (mnm 10) = some c) (ht : s.vm.findClass (mnm 10) = some t) : s.vm.assignable c t = msub 10 10 := vb_asgS t c ht hc
theorem st_IK {b : Nat} {s : State} (hts : ∀ w ∈ lw_tbl, w.before #[Value.ref b] s = true) (hgv : (Jvm.Cond.and given_1 narrow_1).before #[Value.ref b] s = true) : IK s := by
  intro ci ct hci hct c t hc ht
  simp only [mcs, List.mem_cons, List.not_mem_nil, or_false] at hci hct
  rcases hci with rfl | rfl | rfl | rfl | rfl | rfl | rfl
  · rcases hct with rfl | rfl | rfl | rfl | rfl | rfl | rfl
    · exact st_ik_0_0 hts hgv hc ht
    · exact st_ik_0_3 hts hgv hc ht
    · exact st_ik_0_4 hts hgv hc ht
    · exact st_ik_0_6 hts hgv hc ht
    · exact st_ik_0_7 hts hgv hc ht
    · exact st_ik_0_8 hts hgv hc ht
    · exact st_ik_0_10 hts hgv hc ht
  · rcases hct with rfl | rfl | rfl | rfl | rfl | rfl | rfl
    · exact st_ik_3_0 hts hgv hc ht
    · exact st_ik_3_3 hts hgv hc ht
    · exact st_ik_3_4 hts hgv hc ht
    · exact st_ik_3_6 hts hgv hc ht
    · exact st_ik_3_7 hts hgv hc ht
    · exact st_ik_3_8 hts hgv hc ht
    · exact st_ik_3_10 hts hgv hc ht
  · rcases hct with rfl | rfl | rfl | rfl | rfl | rfl | rfl
    · exact st_ik_4_0 hts hgv hc ht
    · exact st_ik_4_3 hts hgv hc ht
    · exact st_ik_4_4 hts hgv hc ht
    · exact st_ik_4_6 hts hgv hc ht
    · exact st_ik_4_7 hts hgv hc ht
    · exact st_ik_4_8 hts hgv hc ht
    · exact st_ik_4_10 hts hgv hc ht
  · rcases hct with rfl | rfl | rfl | rfl | rfl | rfl | rfl
    · exact st_ik_6_0 hts hgv hc ht
    · exact st_ik_6_3 hts hgv hc ht
    · exact st_ik_6_4 hts hgv hc ht
    · exact st_ik_6_6 hts hgv hc ht
    · exact st_ik_6_7 hts hgv hc ht
    · exact st_ik_6_8 hts hgv hc ht
    · exact st_ik_6_10 hts hgv hc ht
  · rcases hct with rfl | rfl | rfl | rfl | rfl | rfl | rfl
    · exact st_ik_7_0 hts hgv hc ht
    · exact st_ik_7_3 hts hgv hc ht
    · exact st_ik_7_4 hts hgv hc ht
    · exact st_ik_7_6 hts hgv hc ht
    · exact st_ik_7_7 hts hgv hc ht
    · exact st_ik_7_8 hts hgv hc ht
    · exact st_ik_7_10 hts hgv hc ht
  · rcases hct with rfl | rfl | rfl | rfl | rfl | rfl | rfl
    · exact st_ik_8_0 hts hgv hc ht
    · exact st_ik_8_3 hts hgv hc ht
    · exact st_ik_8_4 hts hgv hc ht
    · exact st_ik_8_6 hts hgv hc ht
    · exact st_ik_8_7 hts hgv hc ht
    · exact st_ik_8_8 hts hgv hc ht
    · exact st_ik_8_10 hts hgv hc ht
  · rcases hct with rfl | rfl | rfl | rfl | rfl | rfl | rfl
    · exact st_ik_10_0 hts hgv hc ht
    · exact st_ik_10_3 hts hgv hc ht
    · exact st_ik_10_4 hts hgv hc ht
    · exact st_ik_10_6 hts hgv hc ht
    · exact st_ik_10_7 hts hgv hc ht
    · exact st_ik_10_8 hts hgv hc ht
    · exact st_ik_10_10 hts hgv hc ht
def stTm (i : Nat) : Term := Term.string "NineMowers$Field" (jIdx.getD i 0)
set_option maxHeartbeats 4000000 in
theorem st_txt {b : Nat} {s : State} {A : Nat → Prop} (hgv : (Jvm.Cond.and given_1 narrow_1).before #[Value.ref b] s = true) (hA : ∀ a : Nat, a < s.heap.size → ¬ A a) : ∃ adK adV : Nat → Nat, vk_S 8 jLen jByt adK adV A s s.heap ∧ ∀ i : Nat, i < 8 → (stTm i).eval #[Value.ref b] s none [] s = some (.ref (adK i)) := by
  have hs := flat_of_before _ hgv
  refine vk_Sof (tm := stTm) (fun i hi => ?_) (fun i hi => ?_) (fun i hi => ?_) (fun i hi => ?_) (fun i hi => ?_) (fun i hi j hj => ?_) (fun i j hi hj hne => ?_) hA
  · rcases i with _ | _ | _ | _ | _ | _ | _ | _ | i <;> first | decide | omega
  · rcases i with _ | _ | _ | _ | _ | _ | _ | _ | i <;> first | exact hs _ (by decide +kernel) | omega
  · rcases i with _ | _ | _ | _ | _ | _ | _ | _ | i <;> first | exact hs _ (by decide +kernel) | omega
  · rcases i with _ | _ | _ | _ | _ | _ | _ | _ | i <;> first | exact hs _ (by decide +kernel) | omega
  · rcases i with _ | _ | _ | _ | _ | _ | _ | _ | i <;> first | exact hs _ (by decide +kernel) | omega
  · rcases i with _ | _ | _ | _ | _ | _ | _ | _ | i
    all_goals first | omega | (rcases j with _ | _ | _ | _ | _ | _ | j <;> first | exact hs _ (by decide +kernel) | (exact absurd hj (by decide)) | (have hj : j + 1 + 1 + 1 + 1 + 1 + 1 < 6 := Nat.lt_of_lt_of_le hj (by decide); omega))
  · rcases i with _ | _ | _ | _ | _ | _ | _ | _ | i
    all_goals first | omega | (rcases j with _ | _ | _ | _ | _ | _ | _ | _ | j <;> first | exact absurd rfl hne | omega | exact Or.inl (hs _ (by decide +kernel)) | exact Or.inr (hs _ (by decide +kernel)))
