/-! a world that goes on with more cells -/
noncomputable def mset (M : Mx) (V' : Vx) : Mx := match M with
  | (p, l, e, R, s, m, args, below, meth, c, V, nL, Q) => (p, l, e, R, s, m, args, below, meth, c, V', nL, Q)
theorem mset_V {M : Mx} {V' : Vx} : mV (mset M V') = V' := by obtain ⟨p, l, e, R, s, m, args, below, meth, c, V, nL, Q⟩ := M; rfl
theorem mset_L {M : Mx} {V' : Vx} : mL (mset M V') = mL M := by obtain ⟨p, l, e, R, s, m, args, below, meth, c, V, nL, Q⟩ := M; rfl
theorem mset_N {M : Mx} {V' : Vx} : mN (mset M V') = mN M := by obtain ⟨p, l, e, R, s, m, args, below, meth, c, V, nL, Q⟩ := M; rfl
/-- a world that has what another has, and maybe more -/
noncomputable def VR (V V' : Vx) : Prop := (vD V' = vD V ∧ vC V' = vC V ∧ vA V' = vA V ∧ vX V' = vX V) ∧ (∀ id ∈ ids V, id ∈ ids V' ∧ va V' id = va V id) ∧ (∀ id, id < 1000 → va V' id = va V id)
theorem VR_rf {V : Vx} : VR V V := ⟨⟨rfl, rfl, rfl, rfl⟩, fun _ h => ⟨h, rfl⟩, fun _ _ => rfl⟩
theorem VR_tr {V V' V'' : Vx} (h : VR V V') (g : VR V' V'') : VR V V'' :=
  ⟨⟨g.1.1.trans h.1.1, g.1.2.1.trans h.1.2.1, g.1.2.2.1.trans h.1.2.2.1, g.1.2.2.2.trans h.1.2.2.2⟩, fun id hi => ⟨(g.2.1 id (h.2.1 id hi).1).1, (g.2.1 id (h.2.1 id hi).1).2.trans (h.2.1 id hi).2⟩, fun id hi => (g.2.2 id hi).trans (h.2.2 id hi)⟩
theorem VR_ext {V : Vx} {L : List (Nat × Nat)} (h : ∀ x ∈ L, x.1 ∉ ids V ∧ 1000 ≤ x.1) : VR V (vext V L) := by
  have hn : ∀ id, (id ∈ ids V ∨ id < 1000) → id ∉ L.map (fun x => x.1) := fun id hi z => by
    obtain ⟨x, hx, e⟩ := List.mem_map.mp z
    have e : x.1 = id := e
    have := h x hx
    rw [e] at this
    rcases hi with hi | hi
    · exact this.1 hi
    · omega
  exact ⟨⟨rfl, rfl, rfl, rfl⟩, fun id hi => ⟨by rw [vext_ids]; exact List.mem_append_left _ hi, vext_old (hn id (Or.inl hi))⟩, fun id hi => vext_old (hn id (Or.inr hi))⟩
theorem vk_S_eq {N : Nat} {len : List Nat} {byt : List (List Int32)} {k v k' v' : Nat → Nat} {A : Nat → Prop} {U : State} {H : Heap} (h : vk_S N len byt k v A U H) (e1 : ∀ i, i < N → k' i = k i) (e2 : ∀ i, i < N → v' i = v i) : vk_S N len byt k' v' A U H :=
  ⟨fun i hi => by rw [e1 i hi, e2 i hi]; exact h.1 i hi, fun i j hi hj e => h.2 i j hi hj (by rw [← e1 i hi, ← e1 j hj]; exact e)⟩
theorem SX_vr {V V' : Vx} {U : State} (h : VR V V') (q : SX V U) : SX V' U := by
  obtain ⟨q1, q2, q3, q4⟩ := q
  unfold SX
  rw [h.1.2.2.1]
  refine ⟨vk_S_eq q1 (fun i hi => h.2.2 _ (by omega)) (fun i hi => h.2.2 _ (by omega)), fun i hi => ?_, q3, ?_⟩
  · rw [h.2.2 _ (by omega)]; exact q2 i hi
  · rw [h.2.2 _ (by decide)]; exact q4
theorem XC_vr {V V' : Vx} (h : VR V V') (q : XC V) : XC V' := by
  obtain ⟨q1, q2⟩ := q
  refine ⟨fun s t hA hs hk hx => ?_, fun U hx => ?_⟩
  · rw [h.1.2.2.2] at hx ⊢
    exact q1 s t hA hs (fun a ha hn => hk a ha (by rw [h.1.2.2.1]; exact hn)) hx
  · rw [h.1.2.2.2] at hx
    exact ⟨(q2 U hx).1, SX_vr h (q2 U hx).2⟩
theorem Cx_vr {M : Mx} {cc : ByteArray} {ret : Option FieldType} {own : String} {Ts : List Cond} {rm : Room} {mc ms : Nat} {Qc : Array Value → State → Outcome → State → Prop} {V' : Vx} (C : Cx M cc ret own Ts rm mc ms Qc) (h : VR (mV M) V') (hw : wfd V') : Cx (mset M V') cc ret own Ts rm mc ms Qc := by
  obtain ⟨p, l, e, R, s, m, args, below, meth, c, V, nL, Q⟩ := M
  obtain ⟨hx, hb, hml, hown, hts, hr, hlk, hK, hR, hQ, hw0, hX⟩ := C
  have e1 : vD V' = vD V := h.1.1
  have e2 : vC V' = vC V := h.1.2.1
  have e3 : vA V' = vA V := h.1.2.2.1
  have e4 : vX V' = vX V := h.1.2.2.2
  refine ⟨hx, hb, hml, hown, hts, hr, hlk, ?_, hR, ?_, hw, ?_, XC_vr h hX.2⟩
  · have e5 : tysV V' = tysV V := by unfold tysV; rw [e2]
    rw [e1, e5]; exact hK
  · rw [e3]; exact hQ
  · rw [e4]; exact hX.1
noncomputable def QIW (V : Vx) (Qk : Int32 → Vx → Sg → Prop) : Array Value → State → Outcome → State → Prop := va_Qi (fun r (u : Vx × Sg) => Qk r u.1 u.2) (fun u t => GG u.1 u.2 t) (vA V)
section RulesW
variable {M : Mx} {cc : ByteArray} {ret : Option FieldType} {own : String} {Ts : List Cond} {rm rc0 : Room} {mc ms : Nat} {Qc : Array Value → State → Outcome → State → Prop} {pc : Nat} {lv lv' : List (Nat × Value)} {st : List Value} {σ : Sg} {kn : Nat × Nat}
theorem P_iretW {V0 : Vx} {Qk : Int32 → Vx → Sg → Prop} (C : Cx M cc (some .int) own Ts rm mc ms (QIW V0 Qk)) (hA : vA (mV M) = vA V0) {x : Int32} (h1 : kn.1 ≤ mc) (h2 : kn.2 ≤ ms) (hd : decode cc pc = .ok (.ireturn, 1)) (h : Qk x (mV M) σ) : PS M pc lv [.int x] σ kn := by
  obtain ⟨p, l, e, R, s, m, args, below, meth, c, V, nL, Q⟩ := M
  intro ls H locs hl hG hS
  obtain ⟨hx, hb, hml, hown, hts, hr, hlk, hK, hR, hQ, hw, hX⟩ := C
  have hQ : Q = MQ below (QIW V0 Qk) args s mc ms (vA V) := hQ
  have hA : vA V = vA V0 := hA
  subst hQ
  refine W.widen h1 h2 ?_
  refine W.iret (v := x) hx hb hr (fun t ht hW => ⟨⟨x, (V, σ), rfl, h, GG_mk ht hG hK hX hS hW⟩, ?_⟩) hS.2.2 hd hlk
  rw [← hA]; exact hS.F ht
noncomputable def refs_in (V : Vx) (vs : List Value) : Prop := ∀ a, Value.ref a ∈ vs → a ∈ ids V
theorem map_vr {V V' : Vx} (h : VR V V') {vs : List Value} (hv : refs_in V vs) : vs.map (cv V') = vs.map (cv V) := by
  apply List.map_congr_left
  intro v hm
  cases v with
  | ref a => show Value.ref (va V' a) = Value.ref (va V a); rw [(h.2.1 a (hv a hm)).2]
  | _ => rfl
theorem lmap_vr {V V' : Vx} (h : VR V V') {lv : List (Nat × Value)} (hv : refs_in V (lv.map (fun q => q.2))) : lv.map (fun q => (q.1, cv V' q.2)) = lv.map (fun q => (q.1, cv V q.2)) := by
  apply List.map_congr_left
  intro q hm
  have e : cv V' q.2 = cv V q.2 := by
    cases hq : q.2 with
    | ref a =>
      show Value.ref (va V' a) = Value.ref (va V a)
      rw [(h.2.1 a (hv a (hq ▸ List.mem_map.mpr ⟨q, hm, rfl⟩))).2]
    | _ => rfl
  rw [e]
theorem bound_of (L : List Nat) : ∃ B, ∀ x ∈ L, x < B := by
  induction L with
  | nil => exact ⟨0, fun x h => absurd h List.not_mem_nil⟩
  | cons a L ih =>
    obtain ⟨B, hB⟩ := ih
    refine ⟨a + B + 1, fun x h => ?_⟩
    rcases List.mem_cons.mp h with h | h
    · omega
    · have := hB x h; omega
theorem fresh_m (V : Vx) {ci : Nat} (hc : isMc ci) : ∃ μ, μ ∉ ids V ∧ 2000 ≤ μ ∧ kd μ = (10 + ci, 0) := by
  obtain ⟨B, hB⟩ := bound_of (ids V)
  have := mc_ge hc
  have e : (2000 + 16 * B + ci) % 16 = ci := by omega
  refine ⟨2000 + 16 * B + ci, fun h => by have := hB _ h; omega, by omega, ?_⟩
  have h1 : ¬ (2000 + 16 * B + ci) < 175 := by omega
  have h2 : ¬ (2000 + 16 * B + ci) < 1000 := by omega
  have h3 : ¬ (2000 + 16 * B + ci) < 2000 := by omega
  unfold kd
  rw [if_neg h1, if_neg h2, if_neg h3, e, if_pos (List.contains_iff_mem.mpr (mcs_of hc))]
noncomputable def mvals (k n v : Int32) : Nat → Int32 := fun j => if j = 0 then k else if j = 1 then n else v
theorem tp_mc : ∀ ci ∈ mcs, tplT.getD ci [] = [0, 0, 0] := by decide +kernel
theorem flds_m {ad : Nat → Nat} {μ ci : Nat} {k n v : Int32} {r : Nat → Option Nat} (hc : ci ∈ mcs) : flds ad μ (mvals k n v) r ci = [.int k, .int n, .int v] := by
  unfold flds
  rw [tp_mc ci hc]
  rfl
theorem sia_1 {σ : Sg} {a b : Nat} {g : Nat → Int32} (h : b ≠ a) : (sia σ a g).1 b = σ.1 b := va_up_ne _ _ h
theorem P_made {k9 n9 v9 : Int32} {idx : Nat} (C : Cx M cc ret own Ts rm mc ms Qc) (hU : UPV (mV M)) (x : XI (mV M) σ) (k : KF own Ts rm idx yX11_made wsX11_made (rmr 4 1 3) 3) (hst : (st.map fun v => v.category).sum ≤ 8) (hd : decode cc pc = .ok (.invokestatic idx, 3)) (hf : kn.1 + 1 ≤ rm.cells ∧ kn.2 + 3 ≤ rm.slots) (hlv : refs_in (mV M) (lv.map (fun q => q.2))) (hsv : refs_in (mV M) st)
    (h : ∀ q μ, μ ∉ ids (mV M) → 2000 ≤ μ → kd μ = (10 + kci k9, 0) → wfd (vext (mV M) [(μ, q)]) → PS (mset M (vext (mV M) [(μ, q)])) (pc + 3) lv (.ref μ :: st) (sia σ μ (mvals k9 n9 v9)) (kn.1 + 1, kn.2 + 3)) : PS M pc lv (.int v9 :: .int n9 :: .int k9 :: st) σ kn := by
  obtain ⟨p, l, e, R, s, m, args, below, meth, c, V, nL, Q⟩ := M
  intro ls H locs hl hG hS
  obtain ⟨hx, hb, hml, hown, hts, hr, hlk, hK, rfl, rfl, hw, hX⟩ := C
  obtain ⟨bytes, maxL, rt, ws', k1, k2, k3, k4⟩ := k
  have hrc : rc (rwd V σ) = cells V σ := rwd_rc hG.2.1
  have hGR : GRH V (rwd V σ) H := by unfold GRH; rw [hrc]; exact ⟨hG.1, hG.2.1⟩
  have es : (Value.int v9 :: .int n9 :: .int k9 :: st).map (cv V) = [Value.int k9, .int n9, .int v9].reverse ++ st.map (cv V) := rfl
  rw [es]
  refine va_callr (va_runS (As := [Value.int k9, .int n9, .int v9]) (rest := st.map (cv V)) ⟨hx, hb, hml, hown, hts⟩ (k_X11_made (l := l) (V := V) (ω0 := rwd V σ) (k := k9) (n := n9) (v := v9) hU) (va_cwS 3 hts k1 k2 rfl rfl k3 k4) ⟨GRRblind, fun U hU hW => ⟨rfl, GRR_mk hU hGR hK hw hX hS hW⟩⟩ rfl rfl hl.1 rfl (cat_sum hst) hd hf) hS (fun _ _ h => h) (fun _ h => h) (fun u ra t H1 locs1 ht hvm hq hB hz hk hS1 => ?_)
  subst ht
  obtain ⟨q, ω⟩ := u
  obtain ⟨g1, g2, g3, g4⟩ := hq
  obtain ⟨rfl, hB⟩ := hB
  have hci := kci_mc k9
  obtain ⟨μ, hμ1, hμ2, hμ3⟩ := fresh_m V hci
  have hvr : VR V (vext V [(μ, ra)]) := VR_ext (fun y hy => by
    obtain rfl : y = (μ, ra) := by simpa using hy
    exact ⟨hμ1, by show 1000 ≤ μ; omega⟩)
  have hwf : wfd (vext V [(μ, ra)]) := fun f hf hk => by
    rw [vext_ids] at hf
    rcases List.mem_append.mp hf with hf | hf
    · obtain ⟨w1, w2, w3, w4⟩ := hw f hf hk
      exact ⟨(hvr.2.1 _ w1).1, (hvr.2.1 _ w2).1, (hvr.2.1 _ w3).1, (hvr.2.1 _ w4).1⟩
    · obtain rfl : f = μ := by simpa using hf
      rw [hμ3] at hk
      have := mc_ge hci
      have hk : 10 + kci k9 = 12 := congrArg Prod.fst hk
      omega
  have hG2 : GH (vext V [(μ, ra)]) (sia σ μ (mvals k9 n9 v9)) t.heap := by
    refine GH_ext hG.2.1 hB.1 g3 (fun y hy => ?_) (by simp) (by simp) (fun id hi => ?_) hwf
    · obtain rfl : y = (μ, ra) := by simpa using hy
      refine ⟨hμ1, g2, g1, ?_⟩
      show EQV (ω.2 ra) (ct (vext V [(μ, ra)]) (sia σ μ (mvals k9 n9 v9)) μ)
      rw [g4, ct_o hμ3, show (sia σ μ (mvals k9 n9 v9)).1 μ = mvals k9 n9 v9 from va_up_self _ _ _, flds_m (mcs_of hci)]
      exact EQV_rf
    · have hne : id ≠ μ := fun z => hμ1 (z ▸ hi)
      exact ct_ext (V := V) (V' := vext V [(μ, ra)]) (σ := σ) (σ' := sia σ μ (mvals k9 n9 v9)) x hw rfl (fun j hj => (hvr.2.1 j hj).2) hi (sia_1 hne) rfl rfl
  have k5 := h ra μ hμ1 hμ2 hμ3 hwf ls t.heap locs1 (by
    show lv_has ls nL (lv.map (fun q => (q.1, cv (vext V [(μ, ra)]) q.2)))
    rw [lmap_vr hvr hlv]; exact hl) hG2 hS1
  have e2 : (Value.ref μ :: st).map (cv (vext V [(μ, ra)])) = Value.ref ra :: st.map (cv V) := by
    rw [List.map_cons, map_vr hvr hsv]
    show Value.ref (va (vext V [(μ, ra)]) μ) :: _ = _
    rw [show va (vext V [(μ, ra)]) μ = ra from vext_new (x := (μ, ra)) (by simp) (by simp)]
  have k5 : W p l e R s m args below meth c t.heap locs1 (kn.1 + 1) (kn.2 + 3) _ (F0 m (pc + 3) ls ((Value.ref μ :: st).map (cv (vext V [(μ, ra)])))) := k5
  rw [e2] at k5
  exact k5
end RulesW
theorem isMw_vr {V V' : Vx} (h : VR V V') {μ : Nat} (q : isMw V μ) : isMw V' μ := by
  obtain ⟨ci, q1, q2, q3⟩ := q
  exact ⟨ci, q1, q2, (h.2.1 μ q3).1⟩
theorem XI_vr {V V' : Vx} {σ : Sg} (h : VR V V') (x : XI V σ) : XI V' σ := by
  obtain ⟨x1, x2, x3, x4⟩ := x
  refine ⟨x1, fun c hc => ?_, fun k f hf => ⟨(x3 k f hf).1, (h.2.1 f (x3 k f hf).2).1⟩, x4⟩
  obtain ⟨⟨f, f1, f2, f3⟩, g⟩ := x2 c hc
  exact ⟨⟨f, f1, f2, (h.2.1 f f3).1⟩, fun k μ hμ => isMw_vr h (g k μ hμ)⟩
theorem XI_m {V : Vx} {σ : Sg} {μ : Nat} {k n v : Int32} (x : XI V σ) (hμ : 2000 ≤ μ) (k0 : 0 ≤ k.toInt) (k6 : k.toInt ≤ 6) (n0 : 0 ≤ n.toInt) (n5 : n.toInt ≤ 5) (v0 : 0 ≤ v.toInt) (v9 : v.toInt ≤ 9) : XI V (sia σ μ (mvals k n v)) := by
  refine XIs_sia x (fun j lo hi hl => ?_)
  have e : lim μ j = if j = 0 then some (0, 6) else if j = 1 then some (0, 5) else if j = 2 then some (0, 9) else none := by
    have h1 : ¬ μ < 69 := by omega
    have h2 : fo μ = none := by
      unfold fo
      rw [if_neg (by omega), if_neg (by omega), if_neg (by omega), if_neg (by omega)]
    unfold lim
    rw [if_neg h1, h2]
    show (if 2000 ≤ μ then _ else _) = _
    rw [if_pos hμ]
  rw [e] at hl
  unfold mvals
  by_cases e0 : j = 0
  · rw [if_pos e0] at hl ⊢; cases hl; exact ⟨k0, k6⟩
  · rw [if_neg e0] at hl ⊢
    by_cases e1 : j = 1
    · rw [if_pos e1] at hl ⊢; cases hl; exact ⟨n0, n5⟩
    · rw [if_neg e1] at hl ⊢
      by_cases e2 : j = 2
      · rw [if_pos e2] at hl; cases hl; exact ⟨v0, v9⟩
      · rw [if_neg e2] at hl; cases hl
