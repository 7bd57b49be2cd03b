/-! the law's own rules -/
theorem Z_MQ {below : List Frame} {a : Array Value} {s t : State} {A : Addr → Prop} (h : lw_Z below a s t) : MQ below lw_Q a s 600000 7302250 A t := by
  obtain ⟨o, h1, h2, h3, h4⟩ := h
  exact ⟨o, h1, h2, ⟨h3, h4⟩, [], h4, fun _ q => absurd q List.not_mem_nil⟩
theorem MQ_Z {below : List Frame} {a : Array Value} {s t : State} {A : Addr → Prop} (h : MQ below lw_Q a s 600000 7302250 A t) : lw_Z below a s t := by
  obtain ⟨o, h1, h2, h3, _⟩ := h
  exact ⟨o, h1, h2, h3⟩
theorem W_mono {p : Program} {l : Launch} {e : Env} {R : Room} {s : State} {m : MethodId} {args : Array Value} {below : List Frame} {meth : Method} {c : Code} {H : Heap} {locs : List Loc} {cells slots : Nat} {Q Q' : State → Prop} {g : JFrame} (hq : ∀ t, Q t → Q' t) (h : W p l e R s m args below meth c H locs cells slots Q g) : W p l e R s m args below meth c H locs cells slots Q' g := fun T hT X => by
  obtain ⟨t, a, b⟩ := h T hT X
  exact ⟨t, a, hq t b⟩
/-- the script's row -/
noncomputable def SCR (M : Mx) (L : Nat) (xs : Nat → Int32) : Prop := match M with
  | (p, l, e, R, s, m, args, below, meth, c, V, nL, Q) => va_X (va V 500) L xs s s.heap ∧ va V 500 < s.heap.size ∧ (∀ q, vA V q → s.heap.size ≤ q) ∧ ∃ b, args = #[Value.ref b]
theorem SCR_vr {M : Mx} {V' : Vx} {L : Nat} {xs : Nat → Int32} (h : SCR M L xs) (v : VR (mV M) V') : SCR (mset M V') L xs := by
  obtain ⟨p, l, e, R, s, m, args, below, meth, c, V, nL, Q⟩ := M
  obtain ⟨h1, h2, h3, h4⟩ := h
  have e1 : va V' 500 = va V 500 := v.2.2 500 (by decide)
  have e2 : vA V' = vA V := v.1.2.2.1
  show va_X (va V' 500) L xs s s.heap ∧ va V' 500 < s.heap.size ∧ (∀ q, vA V' q → s.heap.size ≤ q) ∧ ∃ b, args = #[Value.ref b]
  rw [e1, e2]
  exact ⟨h1, h2, h3, h4⟩
theorem mNW_vr {M : Mx} {V' : Vx} (h : mNW M) : mNW (mset M V') := by
  obtain ⟨p, l, e, R, s, m, args, below, meth, c, V, nL, Q⟩ := M
  exact h
theorem UPV_vr {V V' : Vx} (v : VR V V') (h : UPV V) : UPV V' := by
  unfold UPV
  rw [v.1.2.2.1, v.1.2.2.2]
  exact h
section LawRules
variable {M : Mx} {cc : ByteArray} {ret : Option FieldType} {own : String} {Ts : List Cond} {rm rc0 : Room} {mc ms : Nat} {Qc : Array Value → State → Outcome → State → Prop} {pc : Nat} {lv lv' : List (Nat × Value)} {st : List Value} {σ : Sg} {kn : Nat × Nat} {L : Nat} {xs : Nat → Int32}
theorem P_scld (C : Cx M cc ret own Ts rm mc ms Qc) (S : SCR M L xs) {i : Int32} (hin : vp_in i L) (hd : decode cc pc = .ok (.iaload, 1)) (h : PS M (pc + 1) lv (.int (xs i.toNatClampNeg) :: st) σ kn) : PS M pc lv (.int i :: .ref 500 :: st) σ kn := by
  obtain ⟨p, l, e, R, s, m, args, below, meth, c, V, nL, Q⟩ := M
  intro ls H locs hl hG hS
  exact va_sld C.1 C.2.1 S.1 S.2.1 (fun q => by have h9 := S.2.2.1 _ q; have h8 := S.2.1; omega) hS hin hd (h ls H locs hl hG hS)
theorem P_sclen (C : Cx M cc ret own Ts rm mc ms Qc) (S : SCR M L xs) (hd : decode cc pc = .ok (.arraylength, 1)) (h : PS M (pc + 1) lv (.int (Int32.ofNat L) :: st) σ kn) : PS M pc lv (.ref 500 :: st) σ kn := by
  obtain ⟨p, l, e, R, s, m, args, below, meth, c, V, nL, Q⟩ := M
  intro ls H locs hl hG hS
  exact va_slen C.1 C.2.1 S.1 S.2.1 (fun q => by have h9 := S.2.2.1 _ q; have h8 := S.2.1; omega) hS hd (h ls H locs hl hG hS)
/-- one int of the script: script[i + n] -/
theorem P_cell (C : Cx M cc ret own Ts rm mc ms Qc) (S : SCR M L xs) {i n : Int32} {k : Int} (hk : Int32.ofInt k = n) (d0 : decode cc pc = .ok (.aload_n 0, 1)) (d1 : decode cc (pc + 1) = .ok (.iload_n 3, 1)) (d2 : decode cc (pc + 2) = .ok (.iconst k, 1)) (d3 : decode cc (pc + 3) = .ok (.iadd, 1)) (d4 : decode cc (pc + 4) = .ok (.iaload, 1)) (h0 : lv[0]? = some (0, .ref 500)) (h3 : lv[3]? = some (3, .int i)) (hin : vp_in (i + n) L)
    (h : PS M (pc + 5) lv (.int (xs (i + n).toNatClampNeg) :: st) σ kn) : PS M pc lv st σ kn :=
  P_aload_n C (k := 0) d0 0 h0 (P_iload_n C (k := 3) d1 3 h3 (P_iconst C d2 hk (P_iadd C d3 (P_scld C S hin d4 h))))
theorem lmap_lo {V V' : Vx} (h : VR V V') {lv : List (Nat × Value)} (hv : ∀ q ∈ lv, ∀ a, q.2 = Value.ref a → a < 1000) : lv.map (fun q => (q.1, cv V' q.2)) = lv.map (fun q => (q.1, cv V q.2)) := by
  apply List.map_congr_left
  intro q hm
  have e : cv V' q.2 = cv V q.2 := by
    cases hq : q.2 with
    | ref a =>
      show Value.ref (va V' a) = Value.ref (va V a)
      rw [h.2.2 a (hv q hm a hq)]
    | _ => rfl
  rw [e]
/-- a call that makes cells: the world goes on with more -/
theorem P_ciW {Qk : Int32 → Vx → Sg → Prop} {a : Array Value} {c1 s1 : Nat} {st0 : List Value} (hr : RS M pc lv st0 [] σ kn c1 s1 (QIW (mV M) Qk a)) (hv : ∀ q ∈ lv, ∀ a, q.2 = Value.ref a → a < 1000) (hvr : ∀ r V' σ', Qk r V' σ' → VR (mV M) V') (h : ∀ (r : Int32) (V' : Vx) (σ' : Sg), Qk r V' σ' → PS (mset M V') (pc + 3) lv [.int r] σ' (kn.1 + c1, kn.2 + s1)) : PS M pc lv st0 σ kn := by
  obtain ⟨p, l, e, R, s, m, args, below, meth, c, V, nL, Q⟩ := M
  intro ls H locs hl hG hS
  refine va_calli (hr ls H locs hl hG hS) hS (fun _ _ h => h) (fun _ h => h) (fun r u t H1 locs1 ht hvm hq hB hz hk hS1 => ?_)
  subst ht
  have v : VR V u.1 := hvr r u.1 u.2 hq
  have k := h r u.1 u.2 hq ls t.heap locs1 (by
    show lv_has ls nL (lv.map (fun q => (q.1, cv u.1 q.2)))
    rw [lmap_lo v hv]; exact hl) hB.1 (by rw [v.1.2.2.1]; exact hS1)
  exact k
theorem GGblindN {V : Vx} {av : List Value} {σ : Sg} : FrameBlind (va_Pc av (fun U => GG V σ U ∧ NWU U)) := fun a U g mk q => by
  obtain ⟨q0, ⟨q1, q2, q3, q4⟩, q5⟩ := q
  exact ⟨q0, ⟨q1, va_K.moved (u := U) (U := U.calling g mk a) (Vm.Alike.refl U.vm) q2, q4.1 U _ (Or.inr rfl) (Nat.le_refl _) (fun _ _ _ => rfl) q3, q4⟩, NWU_c q5⟩
theorem R_vN {idx n b ci z : Nat} {y : MethodName} {ws : List Cond} {As : List Value} {Cn : String} {T : u_T} {N : Nat} {Qm : Array Value → State → Outcome → State → Prop} (C : Cx M cc ret own Ts rm mc ms Qc) (hNW : mNW M) (k : KV own Ts rm idx Cn y ws rc0 n) (hn : As.length = n) (hk : kd b = (10 + ci, z)) (hcl : vwCl[ci]? = some (Cn, T, N)) (hi : b ∈ ids (mV M)) (hst : (st.map fun v => v.category).sum ≤ 8) (hd : decode cc pc = .ok (.invokevirtual idx, 3)) (hf : kn.1 + rc0.cells ≤ rm.cells ∧ kn.2 + rc0.slots ≤ rm.slots)
    (hM : KaN (mL M) (mV M) y ws rc0 rc0.cells rc0.slots (.ref b :: As) σ Qm) : RS M pc lv (As.reverse ++ .ref b :: st) st σ kn rc0.cells rc0.slots (Qm ((.ref b :: As).map (cv (mV M))).toArray) := by
  obtain ⟨p, l, e, R, s, m, args, below, meth, c, V, nL, Q⟩ := M
  intro ls H locs hl hG hS
  obtain ⟨hx, hb, hml, hown, hts, hr, hlk, hK, rfl, rfl, hw, hX⟩ := C
  obtain ⟨bytes, maxL, rt, ws', k1, k2, k3, k4⟩ := k
  obtain ⟨q0, hq⟩ := cell_at (V := V) (σ := σ) hi
  rw [ct_o hk] at hq
  rw [map_stk]
  exact va_runV (As := As.map (cv V)) (b := va V b) ⟨hx, hb, hml, hown, hts⟩ hM (cwV n hts k1 k2 rfl rfl k3 k4) ⟨GGblindN, va_recv hK hG.1 hcl hq, fun U hU hW => ⟨rfl, GG_mk hU hG hK hX hS hW, NWU_w hW hNW⟩⟩ rfl (by rw [List.length_map]; exact hn) hl.1 rfl (cat_sum hst) hd hf
end LawRules
theorem ofNat_i {n : Nat} (h : n ≤ 3072) : (Int32.ofNat n).toInt = (n : Int) := by
  rw [Int32.toInt_ofNat_of_lt (by omega)]
theorem lw_in {j L : Nat} {i n : Int32} (hi : i.toInt = 6 * (j : Int)) (hL : 6 * j + 6 ≤ L) (h3 : L ≤ 3072) (h0 : 0 ≤ n.toInt) (h5 : n.toInt ≤ 5) : vp_in (i + n) L := by
  have e : (i + n).toInt = i.toInt + n.toInt := i_add (by omega) (by omega)
  exact vp_in_iff.mpr ⟨by omega, by omega⟩
noncomputable abbrev lwv (i : Int32) : List (Nat × Value) := [(0, .ref 500), (1, .ref 0), (2, .ref 74), (3, .int i)]
theorem lwv_lo (i : Int32) : ∀ q ∈ lwv i, ∀ a, q.2 = Value.ref a → a < 1000 := by
  intro q hq a e
  simp only [lwv, List.mem_cons, List.not_mem_nil, or_false] at hq
  rcases hq with rfl | rfl | rfl | rfl <;> cases e <;> decide
/-- what holds at the law's own steps -/
noncomputable def LSt (M : Mx) (L : Nat) (xs : Nat → Int32) (j : Nat) (σ : Sg) (kn : Nat × Nat) : Prop := Cx M cL_law ret RL lw_tbl room_1 600000 7302250 lw_Q ∧ SCR M L xs ∧ INV (mV M) σ ∧ UPV (mV M) ∧ mNW M ∧ wfd (mV M) ∧ kn.1 ≤ 200 + 5 * j ∧ kn.2 ≤ 4000 + 142 * j ∧ mN M = 4
theorem LS_s {M : Mx} {L : Nat} {xs : Nat → Int32} {j : Nat} {σ σ' : Sg} {kn kn' : Nat × Nat} (S : LSt M L xs j σ kn) (h : INV (mV M) σ') (h1 : kn'.1 = kn.1) (h2 : kn'.2 = kn.2) : LSt M L xs (j + 1) σ' kn' := by
  obtain ⟨s1, s2, s3, s4, s5, s6, s7, s8, s9⟩ := S
  exact ⟨s1, s2, h, s4, s5, s6, by omega, by omega, s9⟩
theorem LS_v {M : Mx} {V' : Vx} {L : Nat} {xs : Nat → Int32} {j : Nat} {σ σ' : Sg} {kn kn' : Nat × Nat} (S : LSt M L xs j σ kn) (v : VR (mV M) V') (hw : wfd V') (h : INV V' σ') (h1 : kn'.1 ≤ kn.1 + 5) (h2 : kn'.2 ≤ kn.2 + 142) : LSt (mset M V') L xs (j + 1) σ' kn' := by
  obtain ⟨s1, s2, s3, s4, s5, s6, s7, s8, s9⟩ := S
  refine ⟨Cx_vr s1 v hw, SCR_vr s2 v, by rw [mset_V]; exact h, by rw [mset_V]; exact UPV_vr v s4, mNW_vr s5, by rw [mset_V]; exact hw, by omega, by omega, by rw [mset_N]; exact s9⟩
theorem LS_k {M : Mx} {L : Nat} {xs : Nat → Int32} {j : Nat} {σ : Sg} {kn : Nat × Nat} (S : LSt M L xs j σ kn) (hL : 6 * j ≤ 3072) {c n : Nat} (hc : c ≤ 5) (hn : n ≤ 142) : kn.1 + c ≤ room_1.cells ∧ kn.2 + n ≤ room_1.slots := by
  obtain ⟨s1, s2, s3, s4, s5, s6, s7, s8, s9⟩ := S
  refine ⟨?_, ?_⟩
  · show kn.1 + c ≤ 600000; omega
  · show kn.2 + n ≤ 7302250; omega
/-- the end -/
theorem P_lw {M : Mx} {L : Nat} {xs : Nat → Int32} {j : Nat} {σ : Sg} {kn : Nat × Nat} {lv : List (Nat × Value)} (S : LSt M L xs j σ kn) (hL : 6 * j ≤ 3078) : PS M 1388 lv [.int 1] σ kn := by
  obtain ⟨s1, s2, s3, s4, s5, s6, s7, s8, s9⟩ := S
  obtain ⟨p, l, e, R, s, m, args, below, meth, c, V, nL, Q⟩ := M
  intro ls H locs hl hG hS
  obtain ⟨hx, hb, hml, hown, hts, hr, hlk, hK, rfl, rfl, hw, hX⟩ := s1
  obtain ⟨_, _, h3, b, rfl⟩ := s2
  refine va_forget (fun q hq => h3 _ (hS.2.2 q hq)) ?_
  refine W.widen (show kn.1 ≤ 600000 by omega) (show kn.2 ≤ 7302250 by omega) ?_
  exact W_mono (fun t q => Z_MQ q) (lw_ret hx hb hr hlk dL_law_1388)
