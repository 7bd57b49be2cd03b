/-! the state at the law's entry -/
theorem IK_moved {s t : State} (h : s.vm.Alike t.vm) (q : IK s) : IK t := by
  intro ci ct hci hct c t' hc ht
  rw [h.findClass] at hc ht
  rw [h.assignable]
  exact q ci ct hci hct c t' hc ht
noncomputable def stAd (b fm : Nat) (adK adV : Nat → Nat) (id : Nat) : Nat := if id = 500 then b else if id = 400 then fm else if id < 300 then adK (id - 200) else adV (id - 300)
theorem stAd_k {b fm i : Nat} {adK adV : Nat → Nat} (h : i < 8) : stAd b fm adK adV (200 + i) = adK i := by
  unfold stAd
  rw [if_neg (by omega), if_neg (by omega), if_pos (by omega), Nat.add_sub_cancel_left]
theorem stAd_v {b fm i : Nat} {adK adV : Nat → Nat} (h : i < 8) : stAd b fm adK adV (300 + i) = adV i := by
  unfold stAd
  rw [if_neg (by omega), if_neg (by omega), if_neg (by omega), Nat.add_sub_cancel_left]
noncomputable def stXX (Vp : Vx) (U : State) : Prop := IK U ∧ SX Vp U ∧ (∀ q : Nat, U.heap.size ≤ q → vA Vp q) ∧ va_AO "NineMowers$Mower" U ∧ va_AO "NineMowers$Field" U ∧ va_AO "NineMowers$Tape" U
theorem SX_moved {V : Vx} {s t : State} (hW : s.WarmedH t.vm ∨ t.vm = s.vm) (hk : ∀ q : Nat, q < s.heap.size → ¬ vA V q → t.heap[q]? = s.heap[q]?) (q : SX V s) : SX V t := by
  have ha : s.vm.Alike t.vm := by
    rcases hW with h | h
    · exact h.alike
    · rw [h]; exact Vm.Alike.refl s.vm
  obtain ⟨q1, q2, q3, q4⟩ := q
  refine ⟨(vk_S.moved ha q1).kept hk, fun i hi => ?_, (va_Z.moved ha q3).kept hk, ?_⟩
  · rcases hW with h | h
    · exact vk_R.warm h (q2 i hi)
    · exact vk_R.same h (q2 i hi)
  · rcases q4 with q4 | q4
    · exact Or.inl ((va_Z.moved ha q4).kept hk)
    · exact Or.inr ((va_Z.moved ha q4).kept hk)
theorem stXX_moved {V : Vx} {s t : State} (hW : s.WarmedH t.vm ∨ t.vm = s.vm) (hz : s.heap.size ≤ t.heap.size) (hk : ∀ q : Nat, q < s.heap.size → ¬ vA V q → t.heap[q]? = s.heap[q]?) (q : stXX V s) : stXX V t := by
  have ha : s.vm.Alike t.vm := by
    rcases hW with h | h
    · exact h.alike
    · rw [h]; exact Vm.Alike.refl s.vm
  obtain ⟨q1, q2, q3, q4, q5, q6⟩ := q
  exact ⟨IK_moved ha q1, SX_moved hW hk q2, fun a h => q3 a (Nat.le_trans hz h), va_AO.moved ha q4, va_AO.moved ha q5, va_AO.moved ha q6⟩
set_option maxHeartbeats 4000000 in
theorem st_entry {b : Nat} {s : State} (hts : ∀ w ∈ lw_tbl, w.before #[Value.ref b] s = true) (hgv : (Jvm.Cond.and given_1 narrow_1).before #[Value.ref b] s = true) : ∃ V : Vx, wfd V ∧ va V 500 = b ∧ (∀ q, vA V q ↔ s.heap.size ≤ q) ∧ va_K (vD V) vwCl (tysV V) s ∧ vX V s ∧ XC V ∧ UPV V ∧ NWU s := by
  obtain ⟨c0, i0, k0⟩ := u_known (C := RX0) (T := TX0) (N := 3) hts wsL_inX0 (hts (Cond.instantiable "NineMowers$Boy" 3) (List.mem_append_right _ (List.mem_of_getElem? (i := 291) (by decide +kernel))))
  obtain ⟨c1, i1, k1⟩ := u_known (C := RX1) (T := TX1) (N := 17) hts wsL_inX1 (hts (Cond.instantiable "NineMowers$Course" 17) (List.mem_append_right _ (List.mem_of_getElem? (i := 31) (by decide +kernel))))
  obtain ⟨c2, i2, k2⟩ := u_known (C := RX2) (T := TX2) (N := 12) hts wsL_inX2 (hts (Cond.instantiable "NineMowers$Field" 12) (List.mem_append_right _ (List.mem_of_getElem? (i := 131) (by decide +kernel))))
  obtain ⟨c3, i3, k3⟩ := u_known (C := RX3) (T := TX3) (N := 3) hts wsL_inX3 (hts (Cond.instantiable "NineMowers$Hasty" 3) (List.mem_append_right _ (List.mem_of_getElem? (i := 281) (by decide +kernel))))
  obtain ⟨c4, i4, k4⟩ := u_known (C := RX4) (T := TX4) (N := 3) hts wsL_inX4 (hts (Cond.instantiable "NineMowers$Mower" 3) (List.mem_append_right _ (List.mem_of_getElem? (i := 331) (by decide +kernel))))
  obtain ⟨c5, i5, k5⟩ := u_known (C := RX5) (T := TX5) (N := 2) hts wsL_inX5 (hts (Cond.instantiable "NineMowers$Numbers" 2) (List.mem_append_right _ (List.mem_of_getElem? (i := 39) (by decide +kernel))))
  obtain ⟨c6, i6, k6⟩ := u_known (C := RX6) (T := TX6) (N := 3) hts wsL_inX6 (hts (Cond.instantiable "NineMowers$Old" 3) (List.mem_append_right _ (List.mem_of_getElem? (i := 301) (by decide +kernel))))
  obtain ⟨c7, i7, k7⟩ := u_known (C := RX7) (T := TX7) (N := 3) hts wsL_inX7 (hts (Cond.instantiable "NineMowers$Pressed" 3) (List.mem_append_right _ (List.mem_of_getElem? (i := 311) (by decide +kernel))))
  obtain ⟨c8, i8, k8⟩ := u_known (C := RX8) (T := TX8) (N := 3) hts wsL_inX8 (hts (Cond.instantiable "NineMowers$Steady" 3) (List.mem_append_right _ (List.mem_of_getElem? (i := 246) (by decide +kernel))))
  obtain ⟨c9, i9, k9⟩ := u_known (C := RX9) (T := TX9) (N := 3) hts wsL_inX9 (hts (Cond.instantiable "NineMowers$Tape" 3) (List.mem_append_right _ (List.mem_of_getElem? (i := 180) (by decide +kernel))))
  obtain ⟨c10, i10, k10⟩ := u_known (C := RX10) (T := TX10) (N := 3) hts wsL_inX10 (hts (Cond.instantiable "NineMowers$Told" 3) (List.mem_append_right _ (List.mem_of_getElem? (i := 321) (by decide +kernel))))
  obtain ⟨c11, i11, k11⟩ := u_known (C := RX11) (T := TX11) (N := 13) hts wsL_inX11 (hts (Cond.instantiable "NineMowers" 13) (List.mem_append_right _ (List.mem_of_getElem? (i := 23) (by decide +kernel))))
  obtain ⟨c12, i12, k12⟩ := u_known (C := RX12) (T := TX12) (N := 75) hts wsL_inX12 (hts (Cond.instantiable "NineMowersModel" 75) (List.mem_append_right _ (List.mem_of_getElem? (i := 969) (by decide +kernel))))
  obtain ⟨a0, z0, y0⟩ := st_arr (hts (Cond.arrayClass .int) (List.mem_append_right _ (List.mem_of_getElem? (i := 53) (by decide +kernel))))
  obtain ⟨a1, z1, y1⟩ := st_arr (hts (Cond.arrayClass .byte) (List.mem_append_right _ (List.mem_of_getElem? (i := 179) (by decide +kernel))))
  obtain ⟨a2, z2, y2⟩ := st_arr (hts (Cond.arrayClass .boolean) (List.mem_append_right _ (List.mem_of_getElem? (i := 1200) (by decide +kernel))))
  obtain ⟨a3, z3, y3⟩ := st_arr (hts (Cond.arrayClass .long) (List.mem_append_right _ (List.mem_of_getElem? (i := 197) (by decide +kernel))))
  have o4 := hts (Cond.arrayOver (.object "NineMowers$Mower")) (List.mem_append_right _ (List.mem_of_getElem? (i := 37) (by decide +kernel)))
  obtain ⟨a4, z4, y4⟩ := st_over o4
  have o5 := hts (Cond.arrayOver (.object "NineMowers$Field")) (List.mem_append_right _ (List.mem_of_getElem? (i := 126) (by decide +kernel)))
  obtain ⟨a5, z5, y5⟩ := st_over o5
  have o6 := hts (Cond.arrayOver (.object "NineMowers$Tape")) (List.mem_append_right _ (List.mem_of_getElem? (i := 128) (by decide +kernel)))
  obtain ⟨a6, z6, y6⟩ := st_over o6
  obtain ⟨adK, adV, hS, hev⟩ := st_txt (A := fun q => s.heap.size ≤ q) hgv (fun a ha h => by omega)
  have hs := flat_of_before _ hgv
  have hcs : va_Z "java/lang/String" "COMPACT_STRINGS" "Z" (.int 1) (fun q => s.heap.size ≤ q) s s.heap := va_Zof (hts (Cond.laysStatic "java/lang/String" "COMPACT_STRINGS" "Z") (List.mem_append_right _ (List.mem_of_getElem? (i := 468) (by decide +kernel)))) (hts (Cond.initialized "java/lang/String") (List.mem_append_right _ (List.mem_of_getElem? (i := 15) (by decide +kernel)))) (va_eqi (hs (Cond.eq (.static "java/lang/String" "COMPACT_STRINGS" "Z") (.int 1)) (by decide +kernel))) (fun a ha h => by omega)
  have hfm0 : va_Zq "jdk/internal/util/Preconditions" "SIOOBE_FORMATTER" "Ljava/util/function/BiFunction;" (fun q => s.heap.size ≤ q) s s.heap := va_Zqof (hts (Cond.laysStatic "jdk/internal/util/Preconditions" "SIOOBE_FORMATTER" "Ljava/util/function/BiFunction;") (List.mem_append_right _ (List.mem_of_getElem? (i := 509) (by decide +kernel)))) (hts (Cond.initialized "jdk/internal/util/Preconditions") (List.mem_append_right _ (List.mem_of_getElem? (i := 18) (by decide +kernel)))) (hs (Cond.isRef (.static "jdk/internal/util/Preconditions" "SIOOBE_FORMATTER" "Ljava/util/function/BiFunction;")) (by decide +kernel)) (fun a ha h => by omega)
  obtain ⟨fm, hfm⟩ : ∃ fm : Nat, va_Z "jdk/internal/util/Preconditions" "SIOOBE_FORMATTER" "Ljava/util/function/BiFunction;" .null (fun q => s.heap.size ≤ q) s s.heap ∨ va_Z "jdk/internal/util/Preconditions" "SIOOBE_FORMATTER" "Ljava/util/function/BiFunction;" (.ref fm) (fun q => s.heap.size ≤ q) s s.heap := by
    rcases hfm0 with h | ⟨t, h⟩
    · exact ⟨0, Or.inl h⟩
    · exact ⟨t, Or.inr h⟩
  let Vp : Vx := (((fun c => [c0, c1, c2, c3, c4, c5, c6, c7, c8, c9, c10, c11, c12].getD c 0), (fun c => [i0, i1, i2, i3, i4, i5, i6, i7, i8, i9, i10, i11, i12].getD c (fun _ => 0))), (fun t => [a0, a1, a2, a3, a4, a5, a6].getD t 0), (fun q => s.heap.size ≤ q), stAd b fm adK adV, [], fun _ => True)
  have hX : stXX Vp s := by
    refine ⟨st_IK hts hgv, ⟨vk_S_eq hS (fun i hi => stAd_k hi) (fun i hi => stAd_v hi), fun i hi => ?_, hcs, hfm⟩, fun q h => h, va_AO.of o4, va_AO.of o5, va_AO.of o6⟩
    show vk_R "NineMowers$Field" (jIdx.getD i 0) (jTx.getD i "") (stAd b fm adK adV (200 + i)) s
    rw [stAd_k hi]
    refine vk_R.of (A := #[Value.ref b]) ?_ (hev i hi)
    rcases i with _ | _ | _ | _ | _ | _ | _ | _ | i
    · exact hts (Cond.stringRef "NineMowers$Field" 64 "fsgtl") (List.mem_append_right _ (List.mem_of_getElem? (i := 446) (by decide +kernel)))
    · exact hts (Cond.stringRef "NineMowers$Field" 97 "fast ") (List.mem_append_right _ (List.mem_of_getElem? (i := 546) (by decide +kernel)))
    · exact hts (Cond.stringRef "NineMowers$Field" 99 "slow ") (List.mem_append_right _ (List.mem_of_getElem? (i := 547) (by decide +kernel)))
    · exact hts (Cond.stringRef "NineMowers$Field" 101 "gap ") (List.mem_append_right _ (List.mem_of_getElem? (i := 548) (by decide +kernel)))
    · exact hts (Cond.stringRef "NineMowers$Field" 103 "tire ") (List.mem_append_right _ (List.mem_of_getElem? (i := 549) (by decide +kernel)))
    · exact hts (Cond.stringRef "NineMowers$Field" 105 "long ") (List.mem_append_right _ (List.mem_of_getElem? (i := 550) (by decide +kernel)))
    · exact hts (Cond.stringRef "NineMowers$Field" 123 "mkpetd") (List.mem_append_right _ (List.mem_of_getElem? (i := 604) (by decide +kernel)))
    · exact hts (Cond.stringRef "NineMowers$Field" 125 "<=>") (List.mem_append_right _ (List.mem_of_getElem? (i := 605) (by decide +kernel)))
    · omega
  refine ⟨(Vp.1, Vp.2.1, Vp.2.2.1, Vp.2.2.2.1, [], stXX Vp), fun f hf hk => ?_, rfl, fun q => Iff.rfl, ⟨fun c q hq => ?_, fun k q hq => ?_⟩, hX, ⟨fun u t hW hz hk h => stXX_moved hW hz hk h, fun U h => ⟨h.1, h.2.1⟩⟩, fun U h => h.2.2, ?_⟩
  · have hf : f ∈ fixL := by
      rcases List.mem_append.mp hf with h | h
      · exact h
      · exact absurd h List.not_mem_nil
    obtain ⟨w1, w2, w3, w4⟩ := (show ∀ f ∈ fixL, kd f = (12, 0) → f + 1 ∈ fixL ∧ f + 2 ∈ fixL ∧ f + 3 ∈ fixL ∧ f + 4 ∈ fixL by decide +kernel) f hf hk
    exact ⟨List.mem_append_left _ w1, List.mem_append_left _ w2, List.mem_append_left _ w3, List.mem_append_left _ w4⟩
  · rcases c with _ | _ | _ | _ | _ | _ | _ | _ | _ | _ | _ | _ | _ | c
    · cases hq; exact k0
    · cases hq; exact k1
    · cases hq; exact k2
    · cases hq; exact k3
    · cases hq; exact k4
    · cases hq; exact k5
    · cases hq; exact k6
    · cases hq; exact k7
    · cases hq; exact k8
    · cases hq; exact k9
    · cases hq; exact k10
    · cases hq; exact k11
    · cases hq; exact k12
    · exact absurd hq (by simp)
  · rcases k with _ | _ | _ | _ | _ | _ | _ | k
    · cases hq; exact ⟨z0, y0⟩
    · cases hq; exact ⟨z1, y1⟩
    · cases hq; exact ⟨z2, y2⟩
    · cases hq; exact ⟨z3, y3⟩
    · cases hq; exact ⟨z4, y4⟩
    · cases hq; exact ⟨z5, y5⟩
    · cases hq; exact ⟨z6, y6⟩
    · exact absurd hq (by simp [tysV])
  · exact ⟨va_Nw.of rfl (hts _ (List.mem_append_right _ (List.mem_of_getElem? (i := 32) (by decide +kernel)))), va_Nw.of rfl (hts _ (List.mem_append_right _ (List.mem_of_getElem? (i := 132) (by decide +kernel)))), va_Nw.of rfl (hts _ (List.mem_append_right _ (List.mem_of_getElem? (i := 181) (by decide +kernel))))⟩
