/-! what is known at the law's entry -/
theorem st_no {args : Array Value} {s : State} {C T : String} {c t : ClassId} (h : (Cond.not (.castable C T)).before args s = true) (hc : s.vm.findClass C = some c) (ht : s.vm.findClass T = some t) : s.vm.assignable c t = false := by
  cases hb : s.vm.assignable c t with
  | false => rfl
  | true => simp [Cond.before, Cond.holds, Cond.value, hc, ht, hb] at h
theorem st_arr {args : Array Value} {s : State} {ty : FieldType} (h : (Cond.arrayClass ty).before args s = true) : ∃ cA, ArrOfT s cA ty ∧ s.vm.findClass ("[" ++ ty.toString) = some cA := by
  simp only [Cond.before, Cond.holds, Cond.value] at h
  cases hc : s.vm.findClass ("[" ++ ty.toString) with
  | none => simp [hc] at h
  | some c =>
    cases hk : s.vm.classes[c]? with
    | none => simp [hc, hk] at h
    | some k =>
      simp [hc, hk] at h
      cases hkind : k.kind with
      | array comp t => rw [hkind] at h; simp at h; subst h; exact ⟨c, fun n z => ⟨fun k h => (by cases h), k, hk, comp, hkind⟩, rfl⟩
      | _ => rw [hkind] at h; simp at h
theorem st_over {args : Array Value} {s : State} {n : String} (h : (Cond.arrayOver (.object n)).before args s = true) : ∃ cA, ArrOfT s cA (.object n) ∧ va_RA s cA (.object n) := by
  obtain ⟨comp, c, k, h1, h2, h3, h4, h5⟩ := Cond.arrayOver_spec h
  exact ⟨c, fun N z => ⟨fun k h => (by cases h), k, h3, comp, h4⟩, k, comp, h3, h4, h1, h5⟩
set_option maxRecDepth 20000 in
theorem st_ik_0_0 {b : Nat} {s : State} (hts : ∀ w ∈ lw_tbl, w.before #[Value.ref b] s = true) (hgv : (Jvm.Cond.and given_1 narrow_1).before #[Value.ref b] s = true) {c t : ClassId} (hc : s.vm.findClass (mnm 0) = some c) (ht : s.vm.findClass (mnm 0) = some t) : s.vm.assignable c t = msub 0 0 := vb_asgS t c ht hc
set_option maxRecDepth 20000 in
theorem st_ik_0_3 {b : Nat} {s : State} (hts : ∀ w ∈ lw_tbl, w.before #[Value.ref b] s = true) (hgv : (Jvm.Cond.and given_1 narrow_1).before #[Value.ref b] s = true) {c t : ClassId} (hc : s.vm.findClass (mnm 0) = some c) (ht : s.vm.findClass (mnm 3) = some t) : s.vm.assignable c t = msub 0 3 := st_no (flat_of_before _ hgv (Jvm.Cond.not (Jvm.Cond.castable "NineMowers$Boy" "NineMowers$Hasty")) (List.mem_of_getElem? (i := 39) rfl)) hc ht
set_option maxRecDepth 20000 in
theorem st_ik_0_4 {b : Nat} {s : State} (hts : ∀ w ∈ lw_tbl, w.before #[Value.ref b] s = true) (hgv : (Jvm.Cond.and given_1 narrow_1).before #[Value.ref b] s = true) {c t : ClassId} (hc : s.vm.findClass (mnm 0) = some c) (ht : s.vm.findClass (mnm 4) = some t) : s.vm.assignable c t = msub 0 4 := vb_asgC (va_Nw.of rfl (hts (Cond.castable "NineMowers$Boy" "NineMowers$Mower") (List.mem_append_right _ (List.mem_of_getElem? (i := 1610) (by decide +kernel))))) t c ht hc
set_option maxRecDepth 20000 in
theorem st_ik_0_6 {b : Nat} {s : State} (hts : ∀ w ∈ lw_tbl, w.before #[Value.ref b] s = true) (hgv : (Jvm.Cond.and given_1 narrow_1).before #[Value.ref b] s = true) {c t : ClassId} (hc : s.vm.findClass (mnm 0) = some c) (ht : s.vm.findClass (mnm 6) = some t) : s.vm.assignable c t = msub 0 6 := st_no (flat_of_before _ hgv (Jvm.Cond.not (Jvm.Cond.castable "NineMowers$Boy" "NineMowers$Old")) (List.mem_of_getElem? (i := 62) rfl)) hc ht
set_option maxRecDepth 20000 in
theorem st_ik_0_7 {b : Nat} {s : State} (hts : ∀ w ∈ lw_tbl, w.before #[Value.ref b] s = true) (hgv : (Jvm.Cond.and given_1 narrow_1).before #[Value.ref b] s = true) {c t : ClassId} (hc : s.vm.findClass (mnm 0) = some c) (ht : s.vm.findClass (mnm 7) = some t) : s.vm.assignable c t = msub 0 7 := st_no (flat_of_before _ hgv (Jvm.Cond.not (Jvm.Cond.castable "NineMowers$Boy" "NineMowers$Pressed")) (List.mem_of_getElem? (i := 74) rfl)) hc ht
set_option maxRecDepth 20000 in
theorem st_ik_0_8 {b : Nat} {s : State} (hts : ∀ w ∈ lw_tbl, w.before #[Value.ref b] s = true) (hgv : (Jvm.Cond.and given_1 narrow_1).before #[Value.ref b] s = true) {c t : ClassId} (hc : s.vm.findClass (mnm 0) = some c) (ht : s.vm.findClass (mnm 8) = some t) : s.vm.assignable c t = msub 0 8 := st_no (flat_of_before _ hgv (Jvm.Cond.not (Jvm.Cond.castable "NineMowers$Boy" "NineMowers$Steady")) (List.mem_of_getElem? (i := 28) rfl)) hc ht
set_option maxRecDepth 20000 in
theorem st_ik_0_10 {b : Nat} {s : State} (hts : ∀ w ∈ lw_tbl, w.before #[Value.ref b] s = true) (hgv : (Jvm.Cond.and given_1 narrow_1).before #[Value.ref b] s = true) {c t : ClassId} (hc : s.vm.findClass (mnm 0) = some c) (ht : s.vm.findClass (mnm 10) = some t) : s.vm.assignable c t = msub 0 10 := st_no (flat_of_before _ hgv (Jvm.Cond.not (Jvm.Cond.castable "NineMowers$Boy" "NineMowers$Told")) (List.mem_of_getElem? (i := 17) rfl)) hc ht
set_option maxRecDepth 20000 in
theorem st_ik_3_0 {b : Nat} {s : State} (hts : ∀ w ∈ lw_tbl, w.before #[Value.ref b] s = true) (hgv : (Jvm.Cond.and given_1 narrow_1).before #[Value.ref b] s = true) {c t : ClassId} (hc : s.vm.findClass (mnm 3) = some c) (ht : s.vm.findClass (mnm 0) = some t) : s.vm.assignable c t = msub 3 0 := st_no (flat_of_before _ hgv (Jvm.Cond.not (Jvm.Cond.castable "NineMowers$Hasty" "NineMowers$Boy")) (List.mem_of_getElem? (i := 50) rfl)) hc ht
set_option maxRecDepth 20000 in
theorem st_ik_3_3 {b : Nat} {s : State} (hts : ∀ w ∈ lw_tbl, w.before #[Value.ref b] s = true) (hgv : (Jvm.Cond.and given_1 narrow_1).before #[Value.ref b] s = true) {c t : ClassId} (hc : s.vm.findClass (mnm 3) = some c) (ht : s.vm.findClass (mnm 3) = some t) : s.vm.assignable c t = msub 3 3 := vb_asgS t c ht hc
set_option maxRecDepth 20000 in
theorem st_ik_3_4 {b : Nat} {s : State} (hts : ∀ w ∈ lw_tbl, w.before #[Value.ref b] s = true) (hgv : (Jvm.Cond.and given_1 narrow_1).before #[Value.ref b] s = true) {c t : ClassId} (hc : s.vm.findClass (mnm 3) = some c) (ht : s.vm.findClass (mnm 4) = some t) : s.vm.assignable c t = msub 3 4 := vb_asgC (va_Nw.of rfl (hts (Cond.castable "NineMowers$Hasty" "NineMowers$Mower") (List.mem_append_right _ (List.mem_of_getElem? (i := 1609) (by decide +kernel))))) t c ht hc
set_option maxRecDepth 20000 in
theorem st_ik_3_6 {b : Nat} {s : State} (hts : ∀ w ∈ lw_tbl, w.before #[Value.ref b] s = true) (hgv : (Jvm.Cond.and given_1 narrow_1).before #[Value.ref b] s = true) {c t : ClassId} (hc : s.vm.findClass (mnm 3) = some c) (ht : s.vm.findClass (mnm 6) = some t) : s.vm.assignable c t = msub 3 6 := st_no (flat_of_before _ hgv (Jvm.Cond.not (Jvm.Cond.castable "NineMowers$Hasty" "NineMowers$Old")) (List.mem_of_getElem? (i := 61) rfl)) hc ht
set_option maxRecDepth 20000 in
theorem st_ik_3_7 {b : Nat} {s : State} (hts : ∀ w ∈ lw_tbl, w.before #[Value.ref b] s = true) (hgv : (Jvm.Cond.and given_1 narrow_1).before #[Value.ref b] s = true) {c t : ClassId} (hc : s.vm.findClass (mnm 3) = some c) (ht : s.vm.findClass (mnm 7) = some t) : s.vm.assignable c t = msub 3 7 := st_no (flat_of_before _ hgv (Jvm.Cond.not (Jvm.Cond.castable "NineMowers$Hasty" "NineMowers$Pressed")) (List.mem_of_getElem? (i := 73) rfl)) hc ht
set_option maxRecDepth 20000 in
theorem st_ik_3_8 {b : Nat} {s : State} (hts : ∀ w ∈ lw_tbl, w.before #[Value.ref b] s = true) (hgv : (Jvm.Cond.and given_1 narrow_1).before #[Value.ref b] s = true) {c t : ClassId} (hc : s.vm.findClass (mnm 3) = some c) (ht : s.vm.findClass (mnm 8) = some t) : s.vm.assignable c t = msub 3 8 := st_no (flat_of_before _ hgv (Jvm.Cond.not (Jvm.Cond.castable "NineMowers$Hasty" "NineMowers$Steady")) (List.mem_of_getElem? (i := 27) rfl)) hc ht
set_option maxRecDepth 20000 in
theorem st_ik_3_10 {b : Nat} {s : State} (hts : ∀ w ∈ lw_tbl, w.before #[Value.ref b] s = true) (hgv : (Jvm.Cond.and given_1 narrow_1).before #[Value.ref b] s = true) {c t : ClassId} (hc : s.vm.findClass (mnm 3) = some c) (ht : s.vm.findClass (mnm 10) = some t) : s.vm.assignable c t = msub 3 10 := st_no (flat_of_before _ hgv (Jvm.Cond.not (Jvm.Cond.castable "NineMowers$Hasty" "NineMowers$Told")) (List.mem_of_getElem? (i := 16) rfl)) hc ht
set_option maxRecDepth 20000 in
theorem st_ik_4_0 {b : Nat} {s : State} (hts : ∀ w ∈ lw_tbl, w.before #[Value.ref b] s = true) (hgv : (Jvm.Cond.and given_1 narrow_1).before #[Value.ref b] s = true) {c t : ClassId} (hc : s.vm.findClass (mnm 4) = some c) (ht : s.vm.findClass (mnm 0) = some t) : s.vm.assignable c t = msub 4 0 := st_no (flat_of_before _ hgv (Jvm.Cond.not (Jvm.Cond.castable "NineMowers$Mower" "NineMowers$Boy")) (List.mem_of_getElem? (i := 53) rfl)) hc ht
set_option maxRecDepth 20000 in
theorem st_ik_4_3 {b : Nat} {s : State} (hts : ∀ w ∈ lw_tbl, w.before #[Value.ref b] s = true) (hgv : (Jvm.Cond.and given_1 narrow_1).before #[Value.ref b] s = true) {c t : ClassId} (hc : s.vm.findClass (mnm 4) = some c) (ht : s.vm.findClass (mnm 3) = some t) : s.vm.assignable c t = msub 4 3 := st_no (flat_of_before _ hgv (Jvm.Cond.not (Jvm.Cond.castable "NineMowers$Mower" "NineMowers$Hasty")) (List.mem_of_getElem? (i := 42) rfl)) hc ht
set_option maxRecDepth 20000 in
theorem st_ik_4_4 {b : Nat} {s : State} (hts : ∀ w ∈ lw_tbl, w.before #[Value.ref b] s = true) (hgv : (Jvm.Cond.and given_1 narrow_1).before #[Value.ref b] s = true) {c t : ClassId} (hc : s.vm.findClass (mnm 4) = some c) (ht : s.vm.findClass (mnm 4) = some t) : s.vm.assignable c t = msub 4 4 := vb_asgS t c ht hc
set_option maxRecDepth 20000 in
theorem st_ik_4_6 {b : Nat} {s : State} (hts : ∀ w ∈ lw_tbl, w.before #[Value.ref b] s = true) (hgv : (Jvm.Cond.and given_1 narrow_1).before #[Value.ref b] s = true) {c t : ClassId} (hc : s.vm.findClass (mnm 4) = some c) (ht : s.vm.findClass (mnm 6) = some t) : s.vm.assignable c t = msub 4 6 := st_no (flat_of_before _ hgv (Jvm.Cond.not (Jvm.Cond.castable "NineMowers$Mower" "NineMowers$Old")) (List.mem_of_getElem? (i := 65) rfl)) hc ht
set_option maxRecDepth 20000 in
theorem st_ik_4_7 {b : Nat} {s : State} (hts : ∀ w ∈ lw_tbl, w.before #[Value.ref b] s = true) (hgv : (Jvm.Cond.and given_1 narrow_1).before #[Value.ref b] s = true) {c t : ClassId} (hc : s.vm.findClass (mnm 4) = some c) (ht : s.vm.findClass (mnm 7) = some t) : s.vm.assignable c t = msub 4 7 := st_no (flat_of_before _ hgv (Jvm.Cond.not (Jvm.Cond.castable "NineMowers$Mower" "NineMowers$Pressed")) (List.mem_of_getElem? (i := 77) rfl)) hc ht
set_option maxRecDepth 20000 in
theorem st_ik_4_8 {b : Nat} {s : State} (hts : ∀ w ∈ lw_tbl, w.before #[Value.ref b] s = true) (hgv : (Jvm.Cond.and given_1 narrow_1).before #[Value.ref b] s = true) {c t : ClassId} (hc : s.vm.findClass (mnm 4) = some c) (ht : s.vm.findClass (mnm 8) = some t) : s.vm.assignable c t = msub 4 8 := st_no (flat_of_before _ hgv (Jvm.Cond.not (Jvm.Cond.castable "NineMowers$Mower" "NineMowers$Steady")) (List.mem_of_getElem? (i := 31) rfl)) hc ht
set_option maxRecDepth 20000 in
theorem st_ik_4_10 {b : Nat} {s : State} (hts : ∀ w ∈ lw_tbl, w.before #[Value.ref b] s = true) (hgv : (Jvm.Cond.and given_1 narrow_1).before #[Value.ref b] s = true) {c t : ClassId} (hc : s.vm.findClass (mnm 4) = some c) (ht : s.vm.findClass (mnm 10) = some t) : s.vm.assignable c t = msub 4 10 := st_no (flat_of_before _ hgv (Jvm.Cond.not (Jvm.Cond.castable "NineMowers$Mower" "NineMowers$Told")) (List.mem_of_getElem? (i := 20) rfl)) hc ht
set_option maxRecDepth 20000 in
theorem st_ik_6_0 {b : Nat} {s : State} (hts : ∀ w ∈ lw_tbl, w.before #[Value.ref b] s = true) (hgv : (Jvm.Cond.and given_1 narrow_1).before #[Value.ref b] s = true) {c t : ClassId} (hc : s.vm.findClass (mnm 6) = some c) (ht : s.vm.findClass (mnm 0) = some t) : s.vm.assignable c t = msub 6 0 := st_no (flat_of_before _ hgv (Jvm.Cond.not (Jvm.Cond.castable "NineMowers$Old" "NineMowers$Boy")) (List.mem_of_getElem? (i := 51) rfl)) hc ht
set_option maxRecDepth 20000 in
theorem st_ik_6_3 {b : Nat} {s : State} (hts : ∀ w ∈ lw_tbl, w.before #[Value.ref b] s = true) (hgv : (Jvm.Cond.and given_1 narrow_1).before #[Value.ref b] s = true) {c t : ClassId} (hc : s.vm.findClass (mnm 6) = some c) (ht : s.vm.findClass (mnm 3) = some t) : s.vm.assignable c t = msub 6 3 := st_no (flat_of_before _ hgv (Jvm.Cond.not (Jvm.Cond.castable "NineMowers$Old" "NineMowers$Hasty")) (List.mem_of_getElem? (i := 40) rfl)) hc ht
set_option maxRecDepth 20000 in
theorem st_ik_6_4 {b : Nat} {s : State} (hts : ∀ w ∈ lw_tbl, w.before #[Value.ref b] s = true) (hgv : (Jvm.Cond.and given_1 narrow_1).before #[Value.ref b] s = true) {c t : ClassId} (hc : s.vm.findClass (mnm 6) = some c) (ht : s.vm.findClass (mnm 4) = some t) : s.vm.assignable c t = msub 6 4 := vb_asgC (va_Nw.of rfl (hts (Cond.castable "NineMowers$Old" "NineMowers$Mower") (List.mem_append_right _ (List.mem_of_getElem? (i := 1611) (by decide +kernel))))) t c ht hc
set_option maxRecDepth 20000 in
theorem st_ik_6_6 {b : Nat} {s : State} (hts : ∀ w ∈ lw_tbl, w.before #[Value.ref b] s = true) (hgv : (Jvm.Cond.and given_1 narrow_1).before #[Value.ref b] s = true) {c t : ClassId} (hc : s.vm.findClass (mnm 6) = some c) (ht : s.vm.findClass (mnm 6) = some t) : s.vm.assignable c t = msub 6 6 := vb_asgS t c ht hc
set_option maxRecDepth 20000 in
theorem st_ik_6_7 {b : Nat} {s : State} (hts : ∀ w ∈ lw_tbl, w.before #[Value.ref b] s = true) (hgv : (Jvm.Cond.and given_1 narrow_1).before #[Value.ref b] s = true) {c t : ClassId} (hc : s.vm.findClass (mnm 6) = some c) (ht : s.vm.findClass (mnm 7) = some t) : s.vm.assignable c t = msub 6 7 := st_no (flat_of_before _ hgv (Jvm.Cond.not (Jvm.Cond.castable "NineMowers$Old" "NineMowers$Pressed")) (List.mem_of_getElem? (i := 75) rfl)) hc ht
set_option maxRecDepth 20000 in
theorem st_ik_6_8 {b : Nat} {s : State} (hts : ∀ w ∈ lw_tbl, w.before #[Value.ref b] s = true) (hgv : (Jvm.Cond.and given_1 narrow_1).before #[Value.ref b] s = true) {c t : ClassId} (hc : s.vm.findClass (mnm 6) = some c) (ht : s.vm.findClass (mnm 8) = some t) : s.vm.assignable c t = msub 6 8 := vb_asgC (va_Nw.of rfl (hts (Cond.castable "NineMowers$Old" "NineMowers$Steady") (List.mem_append_right _ (List.mem_of_getElem? (i := 1605) (by decide +kernel))))) t c ht hc
set_option maxRecDepth 20000 in
theorem st_ik_6_10 {b : Nat} {s : State} (hts : ∀ w ∈ lw_tbl, w.before #[Value.ref b] s = true) (hgv : (Jvm.Cond.and given_1 narrow_1).before #[Value.ref b] s = true) {c t : ClassId} (hc : s.vm.findClass (mnm 6) = some c) (ht : s.vm.findClass (mnm 10) = some t) : s.vm.assignable c t = msub 6 10 := st_no (flat_of_before _ hgv (Jvm.Cond.not (Jvm.Cond.castable "NineMowers$Old" "NineMowers$Told")) (List.mem_of_getElem? (i := 18) rfl)) hc ht
set_option maxRecDepth 20000 in
theorem st_ik_7_0 {b : Nat} {s : State} (hts : ∀ w ∈ lw_tbl, w.before #[Value.ref b] s = true) (hgv : (Jvm.Cond.and given_1 narrow_1).before #[Value.ref b] s = true) {c t : ClassId} (hc : s.vm.findClass (mnm 7) = some c) (ht : s.vm.findClass (mnm 0) = some t) : s.vm.assignable c t = msub 7 0 := st_no (flat_of_before _ hgv (Jvm.Cond.not (Jvm.Cond.castable "NineMowers$Pressed" "NineMowers$Boy")) (List.mem_of_getElem? (i := 52) rfl)) hc ht
set_option maxRecDepth 20000 in
theorem st_ik_7_3 {b : Nat} {s : State} (hts : ∀ w ∈ lw_tbl, w.before #[Value.ref b] s = true) (hgv : (Jvm.Cond.and given_1 narrow_1).before #[Value.ref b] s = true) {c t : ClassId} (hc : s.vm.findClass (mnm 7) = some c) (ht : s.vm.findClass (mnm 3) = some t) : s.vm.assignable c t = msub 7 3 := vb_asgC (va_Nw.of rfl (hts (Cond.castable "NineMowers$Pressed" "NineMowers$Hasty") (List.mem_append_right _ (List.mem_of_getElem? (i := 1606) (by decide +kernel))))) t c ht hc
set_option maxRecDepth 20000 in
theorem st_ik_7_4 {b : Nat} {s : State} (hts : ∀ w ∈ lw_tbl, w.before #[Value.ref b] s = true) (hgv : (Jvm.Cond.and given_1 narrow_1).before #[Value.ref b] s = true) {c t : ClassId} (hc : s.vm.findClass (mnm 7) = some c) (ht : s.vm.findClass (mnm 4) = some t) : s.vm.assignable c t = msub 7 4 := vb_asgC (va_Nw.of rfl (hts (Cond.castable "NineMowers$Pressed" "NineMowers$Mower") (List.mem_append_right _ (List.mem_of_getElem? (i := 1612) (by decide +kernel))))) t c ht hc
set_option maxRecDepth 20000 in
theorem st_ik_7_6 {b : Nat} {s : State} (hts : ∀ w ∈ lw_tbl, w.before #[Value.ref b] s = true) (hgv : (Jvm.Cond.and given_1 narrow_1).before #[Value.ref b] s = true) {c t : ClassId} (hc : s.vm.findClass (mnm 7) = some c) (ht : s.vm.findClass (mnm 6) = some t) : s.vm.assignable c t = msub 7 6 := st_no (flat_of_before _ hgv (Jvm.Cond.not (Jvm.Cond.castable "NineMowers$Pressed" "NineMowers$Old")) (List.mem_of_getElem? (i := 63) rfl)) hc ht
set_option maxRecDepth 20000 in
theorem st_ik_7_7 {b : Nat} {s : State} (hts : ∀ w ∈ lw_tbl, w.before #[Value.ref b] s = true) (hgv : (Jvm.Cond.and given_1 narrow_1).before #[Value.ref b] s = true) {c t : ClassId} (hc : s.vm.findClass (mnm 7) = some c) (ht : s.vm.findClass (mnm 7) = some t) : s.vm.assignable c t = msub 7 7 := vb_asgS t c ht hc
set_option maxRecDepth 20000 in
theorem st_ik_7_8 {b : Nat} {s : State} (hts : ∀ w ∈ lw_tbl, w.before #[Value.ref b] s = true) (hgv : (Jvm.Cond.and given_1 narrow_1).before #[Value.ref b] s = true) {c t : ClassId} (hc : s.vm.findClass (mnm 7) = some c) (ht : s.vm.findClass (mnm 8) = some t) : s.vm.assignable c t = msub 7 8 := st_no (flat_of_before _ hgv (Jvm.Cond.not (Jvm.Cond.castable "NineMowers$Pressed" "NineMowers$Steady")) (List.mem_of_getElem? (i := 29) rfl)) hc ht
set_option maxRecDepth 20000 in
theorem st_ik_7_10 {b : Nat} {s : State} (hts : ∀ w ∈ lw_tbl, w.before #[Value.ref b] s = true) (hgv : (Jvm.Cond.and given_1 narrow_1).before #[Value.ref b] s = true) {c t : ClassId} (hc : s.vm.findClass (mnm 7) = some c) (ht : s.vm.findClass (mnm 10) = some t) : s.vm.assignable c t = msub 7 10 := st_no (flat_of_before _ hgv (Jvm.Cond.not (Jvm.Cond.castable "NineMowers$Pressed" "NineMowers$Told")) (List.mem_of_getElem? (i := 19) rfl)) hc ht
set_option maxRecDepth 20000 in
theorem st_ik_8_0 {b : Nat} {s : State} (hts : ∀ w ∈ lw_tbl, w.before #[Value.ref b] s = true) (hgv : (Jvm.Cond.and given_1 narrow_1).before #[Value.ref b] s = true) {c t : ClassId} (hc : s.vm.findClass (mnm 8) = some c) (ht : s.vm.findClass (mnm 0) = some t) : s.vm.assignable c t = msub 8 0 := st_no (flat_of_before _ hgv (Jvm.Cond.not (Jvm.Cond.castable "NineMowers$Steady" "NineMowers$Boy")) (List.mem_of_getElem? (i := 49) rfl)) hc ht
set_option maxRecDepth 20000 in
theorem st_ik_8_3 {b : Nat} {s : State} (hts : ∀ w ∈ lw_tbl, w.before #[Value.ref b] s = true) (hgv : (Jvm.Cond.and given_1 narrow_1).before #[Value.ref b] s = true) {c t : ClassId} (hc : s.vm.findClass (mnm 8) = some c) (ht : s.vm.findClass (mnm 3) = some t) : s.vm.assignable c t = msub 8 3 := st_no (flat_of_before _ hgv (Jvm.Cond.not (Jvm.Cond.castable "NineMowers$Steady" "NineMowers$Hasty")) (List.mem_of_getElem? (i := 38) rfl)) hc ht
set_option maxRecDepth 20000 in
theorem st_ik_8_4 {b : Nat} {s : State} (hts : ∀ w ∈ lw_tbl, w.before #[Value.ref b] s = true) (hgv : (Jvm.Cond.and given_1 narrow_1).before #[Value.ref b] s = true) {c t : ClassId} (hc : s.vm.findClass (mnm 8) = some c) (ht : s.vm.findClass (mnm 4) = some t) : s.vm.assignable c t = msub 8 4 := vb_asgC (va_Nw.of rfl (hts (Cond.castable "NineMowers$Steady" "NineMowers$Mower") (List.mem_append_right _ (List.mem_of_getElem? (i := 1608) (by decide +kernel))))) t c ht hc
set_option maxRecDepth 20000 in
theorem st_ik_8_6 {b : Nat} {s : State} (hts : ∀ w ∈ lw_tbl, w.before #[Value.ref b] s = true) (hgv : (Jvm.Cond.and given_1 narrow_1).before #[Value.ref b] s = true) {c t : ClassId} (hc : s.vm.findClass (mnm 8) = some c) (ht : s.vm.findClass (mnm 6) = some t) : s.vm.assignable c t = msub 8 6 := st_no (flat_of_before _ hgv (Jvm.Cond.not (Jvm.Cond.castable "NineMowers$Steady" "NineMowers$Old")) (List.mem_of_getElem? (i := 60) rfl)) hc ht
set_option maxRecDepth 20000 in
theorem st_ik_8_7 {b : Nat} {s : State} (hts : ∀ w ∈ lw_tbl, w.before #[Value.ref b] s = true) (hgv : (Jvm.Cond.and given_1 narrow_1).before #[Value.ref b] s = true) {c t : ClassId} (hc : s.vm.findClass (mnm 8) = some c) (ht : s.vm.findClass (mnm 7) = some t) : s.vm.assignable c t = msub 8 7 := st_no (flat_of_before _ hgv (Jvm.Cond.not (Jvm.Cond.castable "NineMowers$Steady" "NineMowers$Pressed")) (List.mem_of_getElem? (i := 72) rfl)) hc ht
set_option maxRecDepth 20000 in
theorem st_ik_8_8 {b : Nat} {s : State} (hts : ∀ w ∈ lw_tbl, w.before #[Value.ref b] s = true) (hgv : (Jvm.Cond.and given_1 narrow_1).before #[Value.ref b] s = true) {c t : ClassId} (hc : s.vm.findClass (mnm 8) = some c) (ht : s.vm.findClass (mnm 8) = some t) : s.vm.assignable c t = msub 8 8 := vb_asgS t c ht hc
set_option maxRecDepth 20000 in
theorem st_ik_8_10 {b : Nat} {s : State} (hts : ∀ w ∈ lw_tbl, w.before #[Value.ref b] s = true) (hgv : (Jvm.Cond.and given_1 narrow_1).before #[Value.ref b] s = true) {c t : ClassId} (hc : s.vm.findClass (mnm 8) = some c) (ht : s.vm.findClass (mnm 10) = some t) : s.vm.assignable c t = msub 8 10 := st_no (flat_of_before _ hgv (Jvm.Cond.not (Jvm.Cond.castable "NineMowers$Steady" "NineMowers$Told")) (List.mem_of_getElem? (i := 15) rfl)) hc ht
set_option maxRecDepth 20000 in
theorem st_ik_10_0 {b : Nat} {s : State} (hts : ∀ w ∈ lw_tbl, w.before #[Value.ref b] s = true) (hgv : (Jvm.Cond.and given_1 narrow_1).before #[Value.ref b] s = true) {c t : ClassId} (hc : s.vm.findClass (mnm 10) = some c) (ht : s.vm.findClass (mnm 0) = some t) : s.vm.assignable c t = msub 10 0 := vb_asgC (va_Nw.of rfl (hts (Cond.castable "NineMowers$Told" "NineMowers$Boy") (List.mem_append_right _ (List.mem_of_getElem? (i := 1607) (by decide +kernel))))) t c ht hc
set_option maxRecDepth 20000 in
theorem st_ik_10_3 {b : Nat} {s : State} (hts : ∀ w ∈ lw_tbl, w.before #[Value.ref b] s = true) (hgv : (Jvm.Cond.and given_1 narrow_1).before #[Value.ref b] s = true) {c t : ClassId} (hc : s.vm.findClass (mnm 10) = some c) (ht : s.vm.findClass (mnm 3) = some t) : s.vm.assignable c t = msub 10 3 := st_no (flat_of_before _ hgv (Jvm.Cond.not (Jvm.Cond.castable "NineMowers$Told" "NineMowers$Hasty")) (List.mem_of_getElem? (i := 41) rfl)) hc ht
set_option maxRecDepth 20000 in
theorem st_ik_10_4 {b : Nat} {s : State} (hts : ∀ w ∈ lw_tbl, w.before #[Value.ref b] s = true) (hgv : (Jvm.Cond.and given_1 narrow_1).before #[Value.ref b] s = true) {c t : ClassId} (hc : s.vm.findClass (mnm 10) = some c) (ht : s.vm.findClass (mnm 4) = some t) : s.vm.assignable c t = msub 10 4 := vb_asgC (va_Nw.of rfl (hts (Cond.castable "NineMowers$Told" "NineMowers$Mower") (List.mem_append_right _ (List.mem_of_getElem? (i := 1613) (by decide +kernel))))) t c ht hc
set_option maxRecDepth 20000 in
theorem st_ik_10_6 {b : Nat} {s : State} (hts : ∀ w ∈ lw_tbl, w.before #[Value.ref b] s = true) (hgv : (Jvm.Cond.and given_1 narrow_1).before #[Value.ref b] s = true) {c t : ClassId} (hc : s.vm.findClass (mnm 10) = some c) (ht : s.vm.findClass (mnm 6) = some t) : s.vm.assignable c t = msub 10 6 := st_no (flat_of_before _ hgv (Jvm.Cond.not (Jvm.Cond.castable "NineMowers$Told" "NineMowers$Old")) (List.mem_of_getElem? (i := 64) rfl)) hc ht
set_option maxRecDepth 20000 in
theorem st_ik_10_7 {b : Nat} {s : State} (hts : ∀ w ∈ lw_tbl, w.before #[Value.ref b] s = true) (hgv : (Jvm.Cond.and given_1 narrow_1).before #[Value.ref b] s = true) {c t : ClassId} (hc : s.vm.findClass (mnm 10) = some c) (ht : s.vm.findClass (mnm 7) = some t) : s.vm.assignable c t = msub 10 7 := st_no (flat_of_before _ hgv (Jvm.Cond.not (Jvm.Cond.castable "NineMowers$Told" "NineMowers$Pressed")) (List.mem_of_getElem? (i := 76) rfl)) hc ht
set_option maxRecDepth 20000 in
theorem st_ik_10_8 {b : Nat} {s : State} (hts : ∀ w ∈ lw_tbl, w.before #[Value.ref b] s = true) (hgv : (Jvm.Cond.and given_1 narrow_1).before #[Value.ref b] s = true) {c t : ClassId} (hc : s.vm.findClass (mnm 10) = some c) (ht : s.vm.findClass (mnm 8) = some t) : s.vm.assignable c t = msub 10 8 := st_no (flat_of_before _ hgv (Jvm.Cond.not (Jvm.Cond.castable "NineMowers$Told" "NineMowers$Steady")) (List.mem_of_getElem? (i := 30) rfl)) hc ht
set_option maxRecDepth 20000 in
theorem st_ik_10_10 {b : Nat} {s : State} (hts : ∀ w ∈ lw_tbl, w.before #[Value.ref b] s = true) (hgv : (Jvm.Cond.and given_1 narrow_1).before #[Value.ref b] s = true) {c t : ClassId} (hc : s.vm.findClass (mnm 10) = some c) (ht : s.vm.findClass (mnm 10) = some t) : s.vm.assignable c t = msub 10 10 := vb_asgS t c ht hc
theorem st_IK {b : Nat} {s : State} (hts : ∀ w ∈ lw_tbl, w.before #[Value.ref b] s = true) (hgv : (Jvm.Cond.and given_1 narrow_1).before #[Value.ref b] s = true) : IK s := by
  intro ci ct hci hct c t hc ht
  simp only [mcs, List.mem_cons, List.not_mem_nil, or_false] at hci hct
  rcases hci with rfl | rfl | rfl | rfl | rfl | rfl | rfl
  · rcases hct with rfl | rfl | rfl | rfl | rfl | rfl | rfl
    · exact st_ik_0_0 hts hgv hc ht
    · exact st_ik_0_3 hts hgv hc ht
    · exact st_ik_0_4 hts hgv hc ht
    · exact st_ik_0_6 hts hgv hc ht
    · exact st_ik_0_7 hts hgv hc ht
    · exact st_ik_0_8 hts hgv hc ht
    · exact st_ik_0_10 hts hgv hc ht
  · rcases hct with rfl | rfl | rfl | rfl | rfl | rfl | rfl
    · exact st_ik_3_0 hts hgv hc ht
    · exact st_ik_3_3 hts hgv hc ht
    · exact st_ik_3_4 hts hgv hc ht
    · exact st_ik_3_6 hts hgv hc ht
    · exact st_ik_3_7 hts hgv hc ht
    · exact st_ik_3_8 hts hgv hc ht
    · exact st_ik_3_10 hts hgv hc ht
  · rcases hct with rfl | rfl | rfl | rfl | rfl | rfl | rfl
    · exact st_ik_4_0 hts hgv hc ht
    · exact st_ik_4_3 hts hgv hc ht
    · exact st_ik_4_4 hts hgv hc ht
    · exact st_ik_4_6 hts hgv hc ht
    · exact st_ik_4_7 hts hgv hc ht
    · exact st_ik_4_8 hts hgv hc ht
    · exact st_ik_4_10 hts hgv hc ht
  · rcases hct with rfl | rfl | rfl | rfl | rfl | rfl | rfl
    · exact st_ik_6_0 hts hgv hc ht
    · exact st_ik_6_3 hts hgv hc ht
    · exact st_ik_6_4 hts hgv hc ht
    · exact st_ik_6_6 hts hgv hc ht
    · exact st_ik_6_7 hts hgv hc ht
    · exact st_ik_6_8 hts hgv hc ht
    · exact st_ik_6_10 hts hgv hc ht
  · rcases hct with rfl | rfl | rfl | rfl | rfl | rfl | rfl
    · exact st_ik_7_0 hts hgv hc ht
    · exact st_ik_7_3 hts hgv hc ht
    · exact st_ik_7_4 hts hgv hc ht
    · exact st_ik_7_6 hts hgv hc ht
    · exact st_ik_7_7 hts hgv hc ht
    · exact st_ik_7_8 hts hgv hc ht
    · exact st_ik_7_10 hts hgv hc ht
  · rcases hct with rfl | rfl | rfl | rfl | rfl | rfl | rfl
    · exact st_ik_8_0 hts hgv hc ht
    · exact st_ik_8_3 hts hgv hc ht
    · exact st_ik_8_4 hts hgv hc ht
    · exact st_ik_8_6 hts hgv hc ht
    · exact st_ik_8_7 hts hgv hc ht
    · exact st_ik_8_8 hts hgv hc ht
    · exact st_ik_8_10 hts hgv hc ht
  · rcases hct with rfl | rfl | rfl | rfl | rfl | rfl | rfl
    · exact st_ik_10_0 hts hgv hc ht
    · exact st_ik_10_3 hts hgv hc ht
    · exact st_ik_10_4 hts hgv hc ht
    · exact st_ik_10_6 hts hgv hc ht
    · exact st_ik_10_7 hts hgv hc ht
    · exact st_ik_10_8 hts hgv hc ht
    · exact st_ik_10_10 hts hgv hc ht
noncomputable def stTm (i : Nat) : Term := Term.string "NineMowers$Field" (jIdx.getD i 0)
set_option maxRecDepth 20000 in
set_option maxHeartbeats 4000000 in
theorem st_txt {b : Nat} {s : State} {A : Nat → Prop} (hgv : (Jvm.Cond.and given_1 narrow_1).before #[Value.ref b] s = true) (hA : ∀ a : Nat, a < s.heap.size → ¬ A a) : ∃ adK adV : Nat → Nat, vk_S 8 jLen jByt adK adV A s s.heap ∧ ∀ i : Nat, i < 8 → (stTm i).eval #[Value.ref b] s none [] s = some (.ref (adK i)) := by
  have hs := flat_of_before _ hgv
  refine vk_Sof (tm := stTm) (fun i hi => ?_) (fun i hi => ?_) (fun i hi => ?_) (fun i hi => ?_) (fun i hi => ?_) (fun i hi j hj => ?_) (fun i j hi hj hne => ?_) hA
  · rcases i with _ | _ | _ | _ | _ | _ | _ | _ | i <;> first | decide | omega
  · rcases i with _ | _ | _ | _ | _ | _ | _ | _ | i
    · exact hs _ (List.mem_of_getElem? (i := 159) rfl)
    · exact hs _ (List.mem_of_getElem? (i := 168) rfl)
    · exact hs _ (List.mem_of_getElem? (i := 178) rfl)
    · exact hs _ (List.mem_of_getElem? (i := 189) rfl)
    · exact hs _ (List.mem_of_getElem? (i := 200) rfl)
    · exact hs _ (List.mem_of_getElem? (i := 213) rfl)
    · exact hs _ (List.mem_of_getElem? (i := 227) rfl)
    · exact hs _ (List.mem_of_getElem? (i := 243) rfl)
    · omega
  · rcases i with _ | _ | _ | _ | _ | _ | _ | _ | i
    · exact hs _ (List.mem_of_getElem? (i := 160) rfl)
    · exact hs _ (List.mem_of_getElem? (i := 169) rfl)
    · exact hs _ (List.mem_of_getElem? (i := 179) rfl)
    · exact hs _ (List.mem_of_getElem? (i := 190) rfl)
    · exact hs _ (List.mem_of_getElem? (i := 201) rfl)
    · exact hs _ (List.mem_of_getElem? (i := 214) rfl)
    · exact hs _ (List.mem_of_getElem? (i := 228) rfl)
    · exact hs _ (List.mem_of_getElem? (i := 244) rfl)
    · omega
  · rcases i with _ | _ | _ | _ | _ | _ | _ | _ | i
    · exact hs _ (List.mem_of_getElem? (i := 161) rfl)
    · exact hs _ (List.mem_of_getElem? (i := 170) rfl)
    · exact hs _ (List.mem_of_getElem? (i := 180) rfl)
    · exact hs _ (List.mem_of_getElem? (i := 191) rfl)
    · exact hs _ (List.mem_of_getElem? (i := 202) rfl)
    · exact hs _ (List.mem_of_getElem? (i := 215) rfl)
    · exact hs _ (List.mem_of_getElem? (i := 229) rfl)
    · exact hs _ (List.mem_of_getElem? (i := 245) rfl)
    · omega
  · rcases i with _ | _ | _ | _ | _ | _ | _ | _ | i
    · exact hs _ (List.mem_of_getElem? (i := 162) rfl)
    · exact hs _ (List.mem_of_getElem? (i := 171) rfl)
    · exact hs _ (List.mem_of_getElem? (i := 181) rfl)
    · exact hs _ (List.mem_of_getElem? (i := 192) rfl)
    · exact hs _ (List.mem_of_getElem? (i := 203) rfl)
    · exact hs _ (List.mem_of_getElem? (i := 216) rfl)
    · exact hs _ (List.mem_of_getElem? (i := 230) rfl)
    · exact hs _ (List.mem_of_getElem? (i := 246) rfl)
    · omega
  · rcases i with _ | _ | _ | _ | _ | _ | _ | _ | i
    · rcases j with _ | _ | _ | _ | _ | j
      · exact hs _ (List.mem_of_getElem? (i := 163) rfl)
      · exact hs _ (List.mem_of_getElem? (i := 164) rfl)
      · exact hs _ (List.mem_of_getElem? (i := 165) rfl)
      · exact hs _ (List.mem_of_getElem? (i := 166) rfl)
      · exact hs _ (List.mem_of_getElem? (i := 167) rfl)
      · exact absurd (show j + 5 < 5 from hj) (by omega)
    · rcases j with _ | _ | _ | _ | _ | j
      · exact hs _ (List.mem_of_getElem? (i := 172) rfl)
      · exact hs _ (List.mem_of_getElem? (i := 173) rfl)
      · exact hs _ (List.mem_of_getElem? (i := 174) rfl)
      · exact hs _ (List.mem_of_getElem? (i := 175) rfl)
      · exact hs _ (List.mem_of_getElem? (i := 176) rfl)
      · exact absurd (show j + 5 < 5 from hj) (by omega)
    · rcases j with _ | _ | _ | _ | _ | j
      · exact hs _ (List.mem_of_getElem? (i := 182) rfl)
      · exact hs _ (List.mem_of_getElem? (i := 183) rfl)
      · exact hs _ (List.mem_of_getElem? (i := 184) rfl)
      · exact hs _ (List.mem_of_getElem? (i := 185) rfl)
      · exact hs _ (List.mem_of_getElem? (i := 186) rfl)
      · exact absurd (show j + 5 < 5 from hj) (by omega)
    · rcases j with _ | _ | _ | _ | j
      · exact hs _ (List.mem_of_getElem? (i := 193) rfl)
      · exact hs _ (List.mem_of_getElem? (i := 194) rfl)
      · exact hs _ (List.mem_of_getElem? (i := 195) rfl)
      · exact hs _ (List.mem_of_getElem? (i := 196) rfl)
      · exact absurd (show j + 4 < 4 from hj) (by omega)
    · rcases j with _ | _ | _ | _ | _ | j
      · exact hs _ (List.mem_of_getElem? (i := 204) rfl)
      · exact hs _ (List.mem_of_getElem? (i := 205) rfl)
      · exact hs _ (List.mem_of_getElem? (i := 206) rfl)
      · exact hs _ (List.mem_of_getElem? (i := 207) rfl)
      · exact hs _ (List.mem_of_getElem? (i := 208) rfl)
      · exact absurd (show j + 5 < 5 from hj) (by omega)
    · rcases j with _ | _ | _ | _ | _ | j
      · exact hs _ (List.mem_of_getElem? (i := 217) rfl)
      · exact hs _ (List.mem_of_getElem? (i := 218) rfl)
      · exact hs _ (List.mem_of_getElem? (i := 219) rfl)
      · exact hs _ (List.mem_of_getElem? (i := 220) rfl)
      · exact hs _ (List.mem_of_getElem? (i := 221) rfl)
      · exact absurd (show j + 5 < 5 from hj) (by omega)
    · rcases j with _ | _ | _ | _ | _ | _ | j
      · exact hs _ (List.mem_of_getElem? (i := 231) rfl)
      · exact hs _ (List.mem_of_getElem? (i := 232) rfl)
      · exact hs _ (List.mem_of_getElem? (i := 233) rfl)
      · exact hs _ (List.mem_of_getElem? (i := 234) rfl)
      · exact hs _ (List.mem_of_getElem? (i := 235) rfl)
      · exact hs _ (List.mem_of_getElem? (i := 236) rfl)
      · exact absurd (show j + 6 < 6 from hj) (by omega)
    · rcases j with _ | _ | _ | j
      · exact hs _ (List.mem_of_getElem? (i := 247) rfl)
      · exact hs _ (List.mem_of_getElem? (i := 248) rfl)
      · exact hs _ (List.mem_of_getElem? (i := 249) rfl)
      · exact absurd (show j + 3 < 3 from hj) (by omega)
    · omega
  · rcases i with _ | _ | _ | _ | _ | _ | _ | _ | i
    · rcases j with _ | _ | _ | _ | _ | _ | _ | _ | j
      · exact absurd rfl hne
      · exact Or.inl (hs _ (List.mem_of_getElem? (i := 177) rfl))
      · exact Or.inl (hs _ (List.mem_of_getElem? (i := 187) rfl))
      · exact Or.inl (hs _ (List.mem_of_getElem? (i := 197) rfl))
      · exact Or.inl (hs _ (List.mem_of_getElem? (i := 209) rfl))
      · exact Or.inl (hs _ (List.mem_of_getElem? (i := 222) rfl))
      · exact Or.inl (hs _ (List.mem_of_getElem? (i := 237) rfl))
      · exact Or.inl (hs _ (List.mem_of_getElem? (i := 250) rfl))
      · omega
    · rcases j with _ | _ | _ | _ | _ | _ | _ | _ | j
      · exact Or.inr (hs _ (List.mem_of_getElem? (i := 177) rfl))
      · exact absurd rfl hne
      · exact Or.inl (hs _ (List.mem_of_getElem? (i := 188) rfl))
      · exact Or.inl (hs _ (List.mem_of_getElem? (i := 198) rfl))
      · exact Or.inl (hs _ (List.mem_of_getElem? (i := 210) rfl))
      · exact Or.inl (hs _ (List.mem_of_getElem? (i := 223) rfl))
      · exact Or.inl (hs _ (List.mem_of_getElem? (i := 238) rfl))
      · exact Or.inl (hs _ (List.mem_of_getElem? (i := 251) rfl))
      · omega
    · rcases j with _ | _ | _ | _ | _ | _ | _ | _ | j
      · exact Or.inr (hs _ (List.mem_of_getElem? (i := 187) rfl))
      · exact Or.inr (hs _ (List.mem_of_getElem? (i := 188) rfl))
      · exact absurd rfl hne
      · exact Or.inl (hs _ (List.mem_of_getElem? (i := 199) rfl))
      · exact Or.inl (hs _ (List.mem_of_getElem? (i := 211) rfl))
      · exact Or.inl (hs _ (List.mem_of_getElem? (i := 224) rfl))
      · exact Or.inl (hs _ (List.mem_of_getElem? (i := 239) rfl))
      · exact Or.inl (hs _ (List.mem_of_getElem? (i := 252) rfl))
      · omega
    · rcases j with _ | _ | _ | _ | _ | _ | _ | _ | j
      · exact Or.inr (hs _ (List.mem_of_getElem? (i := 197) rfl))
      · exact Or.inr (hs _ (List.mem_of_getElem? (i := 198) rfl))
      · exact Or.inr (hs _ (List.mem_of_getElem? (i := 199) rfl))
      · exact absurd rfl hne
      · exact Or.inl (hs _ (List.mem_of_getElem? (i := 212) rfl))
      · exact Or.inl (hs _ (List.mem_of_getElem? (i := 225) rfl))
      · exact Or.inl (hs _ (List.mem_of_getElem? (i := 240) rfl))
      · exact Or.inl (hs _ (List.mem_of_getElem? (i := 253) rfl))
      · omega
    · rcases j with _ | _ | _ | _ | _ | _ | _ | _ | j
      · exact Or.inr (hs _ (List.mem_of_getElem? (i := 209) rfl))
      · exact Or.inr (hs _ (List.mem_of_getElem? (i := 210) rfl))
      · exact Or.inr (hs _ (List.mem_of_getElem? (i := 211) rfl))
      · exact Or.inr (hs _ (List.mem_of_getElem? (i := 212) rfl))
      · exact absurd rfl hne
      · exact Or.inl (hs _ (List.mem_of_getElem? (i := 226) rfl))
      · exact Or.inl (hs _ (List.mem_of_getElem? (i := 241) rfl))
      · exact Or.inl (hs _ (List.mem_of_getElem? (i := 254) rfl))
      · omega
    · rcases j with _ | _ | _ | _ | _ | _ | _ | _ | j
      · exact Or.inr (hs _ (List.mem_of_getElem? (i := 222) rfl))
      · exact Or.inr (hs _ (List.mem_of_getElem? (i := 223) rfl))
      · exact Or.inr (hs _ (List.mem_of_getElem? (i := 224) rfl))
      · exact Or.inr (hs _ (List.mem_of_getElem? (i := 225) rfl))
      · exact Or.inr (hs _ (List.mem_of_getElem? (i := 226) rfl))
      · exact absurd rfl hne
      · exact Or.inl (hs _ (List.mem_of_getElem? (i := 242) rfl))
      · exact Or.inl (hs _ (List.mem_of_getElem? (i := 255) rfl))
      · omega
    · rcases j with _ | _ | _ | _ | _ | _ | _ | _ | j
      · exact Or.inr (hs _ (List.mem_of_getElem? (i := 237) rfl))
      · exact Or.inr (hs _ (List.mem_of_getElem? (i := 238) rfl))
      · exact Or.inr (hs _ (List.mem_of_getElem? (i := 239) rfl))
      · exact Or.inr (hs _ (List.mem_of_getElem? (i := 240) rfl))
      · exact Or.inr (hs _ (List.mem_of_getElem? (i := 241) rfl))
      · exact Or.inr (hs _ (List.mem_of_getElem? (i := 242) rfl))
      · exact absurd rfl hne
      · exact Or.inl (hs _ (List.mem_of_getElem? (i := 256) rfl))
      · omega
    · rcases j with _ | _ | _ | _ | _ | _ | _ | _ | j
      · exact Or.inr (hs _ (List.mem_of_getElem? (i := 250) rfl))
      · exact Or.inr (hs _ (List.mem_of_getElem? (i := 251) rfl))
      · exact Or.inr (hs _ (List.mem_of_getElem? (i := 252) rfl))
      · exact Or.inr (hs _ (List.mem_of_getElem? (i := 253) rfl))
      · exact Or.inr (hs _ (List.mem_of_getElem? (i := 254) rfl))
      · exact Or.inr (hs _ (List.mem_of_getElem? (i := 255) rfl))
      · exact Or.inr (hs _ (List.mem_of_getElem? (i := 256) rfl))
      · exact absurd rfl hne
      · omega
    · omega
