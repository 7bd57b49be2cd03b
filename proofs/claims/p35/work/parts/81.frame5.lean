/-! THE MACHINE'S POINT over raw cells: while objects are being made. Addresses, and what lies there. -/
noncomputable abbrev RWd : Type := List Nat × (Nat → va_E)
noncomputable def rc (ω : RWd) : va_W := ω.1.map (fun a => (a, ω.2 a))
noncomputable def rput (ω : RWd) (a : Nat) (e : va_E) : RWd := (ω.1, va_up ω.2 a e)
noncomputable def rnew (ω : RWd) (a : Nat) (e : va_E) : RWd := (ω.1 ++ [a], va_up ω.2 a e)
theorem rc_at {ω : RWd} {a : Nat} (h : a ∈ ω.1) : ∃ q0 : Nat, (rc ω)[q0]? = some (a, ω.2 a) :=
  List.getElem?_of_mem (List.mem_map.mpr ⟨a, h, rfl⟩)
theorem rc_i {ω : RWd} {j b : Nat} (h : ω.1[j]? = some b) : (rc ω)[j]? = some (b, ω.2 b) := by
  unfold rc
  rw [List.getElem?_map, h]
  rfl
theorem rc_j {ω : RWd} {j a : Nat} {e : va_E} (h : (rc ω)[j]? = some (a, e)) : ω.1[j]? = some a ∧ e = ω.2 a := by
  unfold rc at h
  rw [List.getElem?_map] at h
  cases hb : ω.1[j]? with
  | none => rw [hb] at h; cases h
  | some b =>
    rw [hb] at h
    have h := Option.some.inj h
    have h1 : b = a := congrArg Prod.fst h
    have h2 : ω.2 b = e := congrArg Prod.snd h
    subst h1
    exact ⟨rfl, h2.symm⟩
theorem rc_put {A : Nat → Prop} {ω : RWd} {a q0 : Nat} {e : va_E} (hD : va_D A (rc ω)) (hq : (rc ω)[q0]? = some (a, ω.2 a)) : (rc ω).set q0 (a, e) = rc (rput ω a e) := by
  have hl := (List.getElem?_eq_some_iff.mp hq).1
  apply List.ext_getElem?
  intro j
  by_cases hj : j = q0
  · subst hj
    rw [List.getElem?_set_self hl, rc_i (ω := rput ω a e) (rc_j hq).1]
    show _ = some (a, va_up ω.2 a e a)
    rw [va_up_self]
  · rw [List.getElem?_set_ne (Ne.symm hj)]
    cases hb : ω.1[j]? with
    | none =>
      unfold rc
      rw [List.getElem?_map, List.getElem?_map, hb, show (rput ω a e).1[j]? = none from hb]
      rfl
    | some b =>
      have h3 := rc_i hb
      have hne : b ≠ a := fun z => by
        subst z
        exact hj (hD.1 j q0 _ _ h3 hq rfl)
      rw [h3, rc_i (ω := rput ω a e) (show (rput ω a e).1[j]? = some b from hb)]
      show some (b, ω.2 b) = some (b, va_up ω.2 a e b)
      rw [va_up_ne _ _ hne]
theorem rc_new {A : Nat → Prop} {ω : RWd} {q : Nat} {e : va_E} (hD : va_D A (rc ω ++ [(q, e)])) : q ∉ ω.1 ∧ rc ω ++ [(q, e)] = rc (rnew ω q e) := by
  have hn : q ∉ ω.1 := by
    intro hm
    obtain ⟨i, hi⟩ := List.getElem?_of_mem hm
    have h0 := rc_i hi
    have hil := (List.getElem?_eq_some_iff.mp h0).1
    have h1 : (rc ω ++ [(q, e)])[i]? = some (q, ω.2 q) := by rw [List.getElem?_append_left hil]; exact h0
    have h2 : (rc ω ++ [(q, e)])[(rc ω).length]? = some (q, e) := by rw [List.getElem?_append_right (Nat.le_refl _), Nat.sub_self]; rfl
    have h3 := hD.1 i _ _ _ h1 h2 rfl
    omega
  refine ⟨hn, ?_⟩
  unfold rc rnew
  rw [List.map_append]
  congr 1
  · apply List.map_congr_left
    intro a ha
    show (a, ω.2 a) = (a, va_up ω.2 q e a)
    rw [va_up_ne _ _ (show a ≠ q from fun z => hn (z ▸ ha))]
  · show [(q, e)] = [(q, va_up ω.2 q e q)]
    rw [va_up_self]
/-- what was made beside one object: apart from all that was there, with what lies in it -/
noncomputable def BT (ω0 ω : RWd) (h : Nat) (P : List (Nat × va_E)) : Prop := h ∈ ω0.1 ∧ (∀ a ∈ ω0.1, a ∈ ω.1 ∧ (a ≠ h → ω.2 a = ω0.2 a)) ∧ (P.map (fun x => x.1)).Nodup ∧ ∀ x ∈ P, x.1 ∈ ω.1 ∧ x.1 ∉ ω0.1 ∧ ω.2 x.1 = x.2
theorem BT_0 {ω : RWd} {h : Nat} (hm : h ∈ ω.1) : BT ω ω h [] := ⟨hm, fun a ha => ⟨ha, fun _ => rfl⟩, List.nodup_nil, fun x hx => absurd hx List.not_mem_nil⟩
theorem BT_h {ω0 ω : RWd} {h : Nat} {P : List (Nat × va_E)} (b : BT ω0 ω h P) : h ∈ ω.1 := (b.2.1 h b.1).1
theorem nodup_snoc {l : List Nat} {q : Nat} (h : l.Nodup) (hq : q ∉ l) : (l ++ [q]).Nodup := by
  rw [List.nodup_append]
  refine ⟨h, by simp, fun a ha b hb => ?_⟩
  have hb : b = q := by simpa using hb
  subst hb
  exact fun z => hq (z ▸ ha)
theorem BT_new {ω0 ω : RWd} {h q : Nat} {e : va_E} {P : List (Nat × va_E)} (b : BT ω0 ω h P) (hq : q ∉ ω.1) : BT ω0 (rnew ω q e) h (P ++ [(q, e)]) ∧ (rnew ω q e).2 h = ω.2 h := by
  obtain ⟨b1, b2, b3, b4⟩ := b
  have hne : ∀ a, a ∈ ω.1 → a ≠ q := fun a ha z => hq (z ▸ ha)
  have hm : ∀ a, a ∈ ω.1 → (rnew ω q e).2 a = ω.2 a := fun a ha => by
    show va_up ω.2 q e a = _
    rw [va_up_ne _ _ (hne a ha)]
  refine ⟨⟨b1, fun a ha => ⟨List.mem_append_left _ (b2 a ha).1, fun z => (hm a (b2 a ha).1).trans ((b2 a ha).2 z)⟩, ?_, fun x hx => ?_⟩, hm h (b2 h b1).1⟩
  · rw [List.map_append]
    refine nodup_snoc b3 (fun z => ?_)
    obtain ⟨x, hx, e2⟩ := List.mem_map.mp z
    have e2 : x.1 = q := e2
    exact hq (e2 ▸ (b4 x hx).1)
  · rcases List.mem_append.mp hx with hx | hx
    · exact ⟨List.mem_append_left _ (b4 x hx).1, (b4 x hx).2.1, (hm _ (b4 x hx).1).trans (b4 x hx).2.2⟩
    · have hx : x = (q, e) := by simpa using hx
      subst hx
      refine ⟨List.mem_append_right _ (by simp), fun z => hq (b2 q z).1, ?_⟩
      show va_up ω.2 q e q = e
      rw [va_up_self]
theorem BT_put {ω0 ω : RWd} {h : Nat} {e : va_E} {P : List (Nat × va_E)} (b : BT ω0 ω h P) : BT ω0 (rput ω h e) h P ∧ (rput ω h e).2 h = e := by
  obtain ⟨b1, b2, b3, b4⟩ := b
  have hm : ∀ a, a ≠ h → (rput ω h e).2 a = ω.2 a := fun a ha => by
    show va_up ω.2 h e a = _
    rw [va_up_ne _ _ ha]
  refine ⟨⟨b1, fun a ha => ⟨(b2 a ha).1, fun z => (hm a z).trans ((b2 a ha).2 z)⟩, b3, fun x hx => ⟨(b4 x hx).1, (b4 x hx).2.1, (hm x.1 (fun z => (b4 x hx).2.1 (z ▸ b1))).trans (b4 x hx).2.2⟩⟩, ?_⟩
  show va_up ω.2 h e h = e
  rw [va_up_self]
theorem map_set1 (P : List (Nat × va_E)) (i a : Nat) (e e' : va_E) (hi : P[i]? = some (a, e)) : (P.set i (a, e')).map (fun x => x.1) = P.map (fun x => x.1) := by
  apply List.ext_getElem?
  intro j
  rw [List.getElem?_map, List.getElem?_map]
  by_cases hj : j = i
  · subst hj
    rw [List.getElem?_set_self (List.getElem?_eq_some_iff.mp hi).1, hi]
    rfl
  · rw [List.getElem?_set_ne (Ne.symm hj)]
theorem nodup_at {P : List (Nat × va_E)} (hn : (P.map (fun x => x.1)).Nodup) {i j a : Nat} {e f : va_E} (hi : P[i]? = some (a, e)) (hj : P[j]? = some (a, f)) : i = j := by
  have h1 : (P.map (fun x => x.1))[i]? = some a := by rw [List.getElem?_map, hi]; rfl
  have h2 : (P.map (fun x => x.1))[j]? = some a := by rw [List.getElem?_map, hj]; rfl
  obtain ⟨l1, g1⟩ := List.getElem?_eq_some_iff.mp h1
  obtain ⟨l2, g2⟩ := List.getElem?_eq_some_iff.mp h2
  have h3 := List.pairwise_iff_getElem.mp hn
  rcases Nat.lt_trichotomy i j with q | q | q
  · exact absurd (g1.trans g2.symm) (h3 i j l1 l2 q)
  · exact q
  · exact absurd (g2.trans g1.symm) (h3 j i l2 l1 q)
theorem BT_set {ω0 ω : RWd} {h i a : Nat} {e e' : va_E} {P : List (Nat × va_E)} (b : BT ω0 ω h P) (hi : P[i]? = some (a, e)) : BT ω0 (rput ω a e') h (P.set i (a, e')) ∧ (rput ω a e').2 h = ω.2 h ∧ ω.2 a = e ∧ a ∈ ω.1 := by
  obtain ⟨b1, b2, b3, b4⟩ := b
  have hx0 : (a, e) ∈ P := List.mem_of_getElem? hi
  have ha := b4 (a, e) hx0
  have hm : ∀ c, c ≠ a → (rput ω a e').2 c = ω.2 c := fun c hc => by
    show va_up ω.2 a e' c = _
    rw [va_up_ne _ _ hc]
  have hne : ∀ c ∈ ω0.1, c ≠ a := fun c hc z => ha.2.1 (z ▸ hc)
  refine ⟨⟨b1, fun c hc => ⟨(b2 c hc).1, fun z => (hm c (hne c hc)).trans ((b2 c hc).2 z)⟩, ?_, fun x hx => ?_⟩, hm h (hne h b1), ha.2.2, ha.1⟩
  · rw [map_set1 P i a e e' hi]; exact b3
  · obtain ⟨j, hj⟩ := List.getElem?_of_mem hx
    by_cases hji : j = i
    · subst hji
      rw [List.getElem?_set_self (List.getElem?_eq_some_iff.mp hi).1] at hj
      have hj := (Option.some.inj hj).symm
      subst hj
      refine ⟨ha.1, ha.2.1, ?_⟩
      show va_up ω.2 a e' a = e'
      rw [va_up_self]
    · rw [List.getElem?_set_ne (Ne.symm hji)] at hj
      have hxm := List.mem_of_getElem? hj
      refine ⟨(b4 x hxm).1, (b4 x hxm).2.1, (hm _ (fun z => hji ?_)).trans (b4 x hxm).2.2⟩
      obtain ⟨x1, x2⟩ := x
      have z : x1 = a := z
      subst z
      exact nodup_at b3 hj hi
theorem BT_call {ω0 ω ω2 : RWd} {h q : Nat} {e e' : va_E} {P P' : List (Nat × va_E)} (b : BT ω0 ω h P) (hq : q ∉ ω.1) (b2 : BT (rnew ω q e) ω2 q P') (c : ω2.2 q = e') : BT ω0 ω2 h (P ++ (q, e') :: P') ∧ ω2.2 h = ω.2 h := by
  obtain ⟨b3, b4⟩ := BT_new (e := e) b hq
  obtain ⟨a1, a2, a3, a4⟩ := b3
  obtain ⟨c1, c2, c3, c4⟩ := b2
  have hqh : h ≠ q := fun z => hq (z ▸ BT_h b)
  have hqn : ∀ x ∈ P, x.1 ≠ q := fun x hx z => hq (z ▸ (b.2.2.2 x hx).1)
  have hq0 : ∀ a ∈ ω0.1, a ≠ q := fun a ha z => hq (z ▸ (b.2.1 a ha).1)
  refine ⟨⟨a1, fun a ha => ?_, ?_, fun x hx => ?_⟩, ((c2 h (a2 h a1).1).2 hqh).trans b4⟩
  · have h1 := a2 a ha
    have h2 := c2 a h1.1
    exact ⟨h2.1, fun z => (h2.2 (hq0 a ha)).trans (h1.2 z)⟩
  · rw [List.map_append, List.nodup_append]
    refine ⟨b.2.2.1, ?_, fun x hx y hy => ?_⟩
    · rw [List.map_cons, List.nodup_cons]
      refine ⟨fun z => ?_, c3⟩
      obtain ⟨x, hx, e2⟩ := List.mem_map.mp z
      have e2 : x.1 = q := e2
      exact (c4 x hx).2.1 (e2 ▸ c1)
    · obtain ⟨x0, hx0, rfl⟩ := List.mem_map.mp hx
      obtain ⟨y0, hy0, rfl⟩ := List.mem_map.mp hy
      have m0 : x0.1 ∈ (rnew ω q e).1 := List.mem_append_left _ (b.2.2.2 x0 hx0).1
      rcases List.mem_cons.mp hy0 with hy0 | hy0
      · subst hy0; exact hqn x0 hx0
      · intro z
        exact (c4 y0 hy0).2.1 (z ▸ m0)
  · rcases List.mem_append.mp hx with hx | hx
    · have h1 := a4 x (List.mem_append_left _ hx)
      have h2 := c2 x.1 h1.1
      exact ⟨h2.1, h1.2.1, (h2.2 (hqn x hx)).trans h1.2.2⟩
    · rcases List.mem_cons.mp hx with hx | hx
      · subst hx
        exact ⟨(c2 q c1).1, fun z => hq (b.2.1 q z).1, c⟩
      · have h1 := c4 x hx
        exact ⟨h1.1, fun z => h1.2.1 (a2 x.1 z).1, h1.2.2⟩
/-- what else is known: all that comes may change, and arrays of the class's kinds can be made -/
noncomputable def UPV (V : Vx) : Prop := ∀ U, vX V U → (∀ q : Nat, U.heap.size ≤ q → vA V q) ∧ va_AO "NineMowers$Mower" U ∧ va_AO "NineMowers$Field" U ∧ va_AO "NineMowers$Tape" U
noncomputable def GRH (V : Vx) (ω : RWd) (H : Heap) : Prop := va_P (vD V) vwCl (rc ω) H ∧ va_D (vA V) (rc ω)
noncomputable def GRR (V : Vx) (ω : RWd) (U : State) : Prop := GRH V ω U.heap ∧ va_K (vD V) vwCl (tysV V) U ∧ vX V U ∧ XC V ∧ wfd V
theorem GRR_mk {V : Vx} {ω : RWd} {H : Heap} {s t : State} {locs : List Loc} (ht : t.heap = H) (hG : GRH V ω H) (hK : va_K (vD V) vwCl (tysV V) s) (hw : wfd V) (hX : vX V s ∧ XC V) (hS : va_S (vA V) s.heap H locs) (hW : s.WarmedH t.vm) : GRR V ω t :=
  ⟨by rw [ht]; exact hG, va_K.moved hW.alike hK, hX.2.1 s t (Or.inl hW) (by rw [ht]; exact hS.1) (by rw [ht]; exact hS.2.1) hX.1, hX.2, hw⟩
noncomputable def mI (M : Mx) : Prop := match M with
  | (p, l, e, R, s, m, args, below, meth, c, V, nL, Q) => meth.name = "<init>"
noncomputable def PR (M : Mx) (pc : Nat) (lv : List (Nat × Value)) (st : List Value) (ω : RWd) (kn : Nat × Nat) : Prop := match M with
  | (p, l, e, R, s, m, args, below, meth, c, V, nL, Q) => ∀ (ls : Array Slot) (H : Heap) (locs : List Loc), lv_has ls nL lv → GRH V ω H → va_S (vA V) s.heap H locs → W p l e R s m args below meth c H locs kn.1 kn.2 Q (F0 m pc ls st)
noncomputable def QRV (V : Vx) (Qk : RWd → Prop) : Array Value → State → Outcome → State → Prop := va_Qv Qk (fun ω t => GRR V ω t) (vA V)
noncomputable def QRR (V : Vx) (Qk : Nat → RWd → Prop) : Array Value → State → Outcome → State → Prop := va_Qr (fun u : Nat × RWd => Qk u.1 u.2) (fun u a t => a = u.1 ∧ GRR V u.2 t) (vA V)
noncomputable abbrev Kr (l : Launch) (V : Vx) (y : MethodName) (ws : List Cond) (rm : Room) (mc ms : Nat) (as : List Value) (ω : RWd) (Qc : Array Value → State → Outcome → State → Prop) : Prop := Met l y ws rm (va_Pc as (fun U => GRR V ω U)) Qc mc ms (vA V)
theorem GRRblind {V : Vx} {av : List Value} {ω : RWd} : FrameBlind (va_Pc av (fun U => GRR V ω U)) := fun a U g mk q => by
  obtain ⟨q0, q1, q2, q3, q4, q5⟩ := q
  exact ⟨q0, q1, va_K.moved (u := U) (U := U.calling g mk a) (Vm.Alike.refl U.vm) q2, q4.1 U _ (Or.inr rfl) (Nat.le_refl _) (fun _ _ _ => rfl) q3, q4, q5⟩
/-- the way in -/
theorem Kr_of {l : Launch} {V : Vx} {y : MethodName} {ws ws' : List Cond} {rm : Room} {mc ms : Nat} {cc : ByteArray} {maxL : Nat} {ret : Option FieldType} {own : String} {as : List Value} {ω : RWd} {Qc : Array Value → State → Outcome → State → Prop}
    (hy : plainName y.cls = true) (hw : ws = Cond.code y cc maxL ret :: ws') (ho : y.cls = own) (hlen : (lg_sl as).length ≤ maxL)
    (h : ∀ M : Mx, mL M = l → mV M = V → mN M = maxL → Cx M cc ret own ws rm mc ms Qc → (y.name = "<init>" → mI M) → PR M 0 (lv_args 0 as) [] ω (0, 0)) : Kr l V y ws rm mc ms as ω Qc := by
  refine Met.ofW (cc := cc) (maxL := maxL) (ret := ret) hy hw ?_
  intro p e s m args below meth c s1 B hml hv
  obtain ⟨rfl, hG, hK, hX, hC, hwf⟩ := hv
  have hown : s.vm.findClass own = some m.cls := by rw [← ho]; exact findClass_of_methodNamed B.named
  have hl := lv_entry as (n := maxL) hlen
  rw [lg_entry_eq]
  exact h (p, l, e, rm, s, m, _, below, meth, c, V, maxL, _) rfl rfl rfl ⟨B.exec, B.bytes, hml, hown, atoms_spec (ws := ws) B.pre, B.returns, B.notSynchronized, hK, rfl, rfl, hwf, hX, hC⟩ (fun hi => (name_of_methodNamed B.named B.method).1.trans hi) _ _ _ hl hG va_S.rf
section RulesR
variable {M : Mx} {cc : ByteArray} {ret : Option FieldType} {own : String} {Ts : List Cond} {rm rc0 : Room} {mc ms : Nat} {Qc : Array Value → State → Outcome → State → Prop} {pc : Nat} {lv lv' : List (Nat × Value)} {st : List Value} {ω : RWd} {kn : Nat × Nat}
theorem Z_aload_n (C : Cx M cc ret own Ts rm mc ms Qc) {k : Fin 4} {x : Nat} (hd : decode cc pc = .ok (.aload_n k, 1)) (j : Nat) (hj : lv[j]? = some ((k : Nat), .ref x)) (h : PR M (pc + 1) lv (.ref x :: st) ω kn) : PR M pc lv st ω kn := by
  obtain ⟨p, l, e, R, s, m, args, below, meth, c, V, nL, Q⟩ := M
  intro ls H locs hl hG hS
  exact lv_aload_n C.1 C.2.1 hd rfl (lv_at hl j hj) (h ls H locs hl hG hS)
theorem Z_iload_n (C : Cx M cc ret own Ts rm mc ms Qc) {k : Fin 4} {x : Int32} (hd : decode cc pc = .ok (.iload_n k, 1)) (j : Nat) (hj : lv[j]? = some ((k : Nat), .int x)) (h : PR M (pc + 1) lv (.int x :: st) ω kn) : PR M pc lv st ω kn := by
  obtain ⟨p, l, e, R, s, m, args, below, meth, c, V, nL, Q⟩ := M
  intro ls H locs hl hG hS
  exact lv_iload_n C.1 C.2.1 hd rfl (lv_at hl j hj) (h ls H locs hl hG hS)
theorem Z_astore_n (C : Cx M cc ret own Ts rm mc ms Qc) {k : Fin 4} {x : Nat} (hd : decode cc pc = .ok (.astore_n k, 1)) (hn : (k : Nat) < mN M) (hl' : stv lv (k : Nat) (.ref x) = lv') (h : PR M (pc + 1) lv' st ω kn) : PR M pc lv (.ref x :: st) ω kn := by
  obtain ⟨p, l, e, R, s, m, args, below, meth, c, V, nL, Q⟩ := M
  intro ls H locs hl hG hS
  exact lv_astore_n C.1 C.2.1 hd rfl hl hn hl' (fun ls hl => h ls H locs hl hG hS)
theorem Z_istore_n (C : Cx M cc ret own Ts rm mc ms Qc) {k : Fin 4} {x : Int32} (hd : decode cc pc = .ok (.istore_n k, 1)) (hn : (k : Nat) < mN M) (hl' : stv lv (k : Nat) (.int x) = lv') (h : PR M (pc + 1) lv' st ω kn) : PR M pc lv (.int x :: st) ω kn := by
  obtain ⟨p, l, e, R, s, m, args, below, meth, c, V, nL, Q⟩ := M
  intro ls H locs hl hG hS
  exact lv_istore_n C.1 C.2.1 hd rfl hl hn hl' (fun ls hl => h ls H locs hl hG hS)
theorem Z_iinc (C : Cx M cc ret own Ts rm mc ms Qc) {i : Nat} {n : Int} {x v : Int32} (hd : decode cc pc = .ok (.iinc i n, 3)) (j : Nat) (hj : lv[j]? = some (i, .int x)) (hv : x + Int32.ofInt n = v) (hn : i < mN M) (hl' : stv lv i (.int v) = lv') (h : PR M (pc + 3) lv' st ω kn) : PR M pc lv st ω kn := by
  obtain ⟨p, l, e, R, s, m, args, below, meth, c, V, nL, Q⟩ := M
  intro ls H locs hl hG hS
  exact lv_iinc C.1 C.2.1 hd hl hj hv hn hl' (fun ls hl => h ls H locs hl hG hS)
theorem Z_iconst (C : Cx M cc ret own Ts rm mc ms Qc) {n : Int} {v : Int32} (hd : decode cc pc = .ok (.iconst n, 1)) (hv : Int32.ofInt n = v) (h : PR M (pc + 1) lv (.int v :: st) ω kn) : PR M pc lv st ω kn := by
  obtain ⟨p, l, e, R, s, m, args, below, meth, c, V, nL, Q⟩ := M
  intro ls H locs hl hG hS
  exact lv_iconst C.1 C.2.1 hd hv (h ls H locs hl hG hS)
theorem Z_bipush (C : Cx M cc ret own Ts rm mc ms Qc) {n : Int} {v : Int32} (hd : decode cc pc = .ok (.bipush n, 2)) (hv : (Int8.ofInt n).toInt32 = v) (h : PR M (pc + 2) lv (.int v :: st) ω kn) : PR M pc lv st ω kn := by
  obtain ⟨p, l, e, R, s, m, args, below, meth, c, V, nL, Q⟩ := M
  intro ls H locs hl hG hS
  exact lv_bipush C.1 C.2.1 hd hv (h ls H locs hl hG hS)
theorem Z_sipush (C : Cx M cc ret own Ts rm mc ms Qc) {n : Int} {v : Int32} (hd : decode cc pc = .ok (.sipush n, 3)) (hv : (Int16.ofInt n).toInt32 = v) (h : PR M (pc + 3) lv (.int v :: st) ω kn) : PR M pc lv st ω kn := by
  obtain ⟨p, l, e, R, s, m, args, below, meth, c, V, nL, Q⟩ := M
  intro ls H locs hl hG hS
  exact lv_sipush C.1 C.2.1 hd hv (h ls H locs hl hG hS)
theorem Z_null (C : Cx M cc ret own Ts rm mc ms Qc) (hd : decode cc pc = .ok (.aconst_null, 1)) (h : PR M (pc + 1) lv (.null :: st) ω kn) : PR M pc lv st ω kn := by
  obtain ⟨p, l, e, R, s, m, args, below, meth, c, V, nL, Q⟩ := M
  intro ls H locs hl hG hS
  exact lv_null C.1 C.2.1 hd (h ls H locs hl hG hS)
theorem Z_dup (C : Cx M cc ret own Ts rm mc ms Qc) {x : Value} (hd : decode cc pc = .ok (.dup, 1)) (hx : x.category = 1) (h : PR M (pc + 1) lv (x :: x :: st) ω kn) : PR M pc lv (x :: st) ω kn := by
  obtain ⟨p, l, e, R, s, m, args, below, meth, c, V, nL, Q⟩ := M
  intro ls H locs hl hG hS
  exact lv_dup C.1 C.2.1 hd hx (h ls H locs hl hG hS)
theorem Z_goto (C : Cx M cc ret own Ts rm mc ms Qc) {off : Int} {tgt : Nat} (hd : decode cc pc = .ok (.goto off, 3)) (ht : (pc : Int) + off = (tgt : Int)) (h : PR M tgt lv st ω kn) : PR M pc lv st ω kn := by
  obtain ⟨p, l, e, R, s, m, args, below, meth, c, V, nL, Q⟩ := M
  intro ls H locs hl hG hS
  exact lv_goto C.1 C.2.1 hd ht (h ls H locs hl hG hS)
theorem Z_icmp_ge (C : Cx M cc ret own Ts rm mc ms Qc) {x y : Int32} {off : Int} {tgt : Nat} (hd : decode cc pc = .ok (.if_icmp .ge off, 3)) (ht : (pc : Int) + off = (tgt : Int)) (kt : y ≤ x → PR M tgt lv st ω kn) (kf : ¬ y ≤ x → PR M (pc + 3) lv st ω kn) : PR M pc lv (.int y :: .int x :: st) ω kn := by
  obtain ⟨p, l, e, R, s, m, args, below, meth, c, V, nL, Q⟩ := M
  intro ls H locs hl hG hS
  exact lv_icmp_ge C.1 C.2.1 hd ht (fun q => kt q ls H locs hl hG hS) (fun q => kf q ls H locs hl hG hS)
theorem Z_sub (ks : List Nat) (hl' : lv_pick lv ks = lv') (h : PR M pc lv' st ω kn) : PR M pc lv st ω kn := by
  obtain ⟨p, l, e, R, s, m, args, below, meth, c, V, nL, Q⟩ := M
  intro ls H locs hl hG hS
  exact h ls H locs (lv_sub hl ks hl') hG hS
theorem Z_tsw (C : Cx M cc ret own Ts rm mc ms Qc) {dflt lo hi : Int} {offs : Array Int} {len : Nat} {x : Int32} (hd : decode cc pc = .ok (.tableswitch dflt lo hi offs, len)) (tgt : Nat) (ht : (pc : Int) + dflt = (tgt : Int)) (ho : x.toInt < lo ∨ hi < x.toInt → PR M tgt lv st ω kn) (hsz : hi - lo + 1 = offs.size)
    (hin : ∀ (i : Nat) (off : Int), offs[i]? = some off → x.toInt = lo + i → PR M ((pc : Int) + off).toNat lv st ω kn ∧ 0 ≤ (pc : Int) + off) : PR M pc lv (.int x :: st) ω kn := by
  obtain ⟨p, l, e, R, s, m, args, below, meth, c, V, nL, Q⟩ := M
  intro ls H locs hl hG hS
  by_cases h : x.toInt < lo ∨ hi < x.toInt
  · exact lv_tableOut C.1 C.2.1 hd h ht (ho h ls H locs hl hG hS)
  · have h1 : ¬ x.toInt < lo := fun q => h (Or.inl q)
    have h2 : ¬ hi < x.toInt := fun q => h (Or.inr q)
    have h3 : (x.toInt - lo).toNat < offs.size := by omega
    obtain ⟨k1, k2⟩ := hin (x.toInt - lo).toNat _ (Array.getElem?_eq_getElem h3) (by omega)
    exact lv_tableIn C.1 C.2.1 hd h1 h2 (Array.getElem?_eq_getElem h3) (Int.toNat_of_nonneg k2).symm (k1 ls H locs hl hG hS)
/-- a final field is set, in a constructor -/
noncomputable def PF (own : String) (Ts : List Cond) (idx ci k : Nat) (rn : String) (ty : FieldType) : Prop := match vwCl[ci]? with
  | some (C, T, N) => k < N ∧ (∀ w ∈ u_ws C T N, w ∈ Ts) ∧ Cond.fieldLink own idx rn (T k).2.1 (T k).2.2.1 ∈ Ts ∧ rn = (T k).1 ∧ (T k).2.2.2 = true ∧ (T k).1 = own ∧ parseFieldDescriptor (T k).2.2.1 = some ty ∧ (∃ ty0 : Nat → FieldType, ∀ k, k < N → parseFieldDescriptor (T k).2.2.1 = some (ty0 k)) ∧ (∀ a, a < N → ∀ b, b < N → a ≠ b → (T a).2.1 ≠ (T b).2.1)
  | none => False
theorem Z_putF (C : Cx M cc ret own Ts rm mc ms Qc) (hI : mI M) {idx ci k a : Nat} {rn : String} {ty : FieldType} (hf : PF own Ts idx ci k rn ty) {fs : List Value} (ha : a ∈ ω.1) (hc : ω.2 a = .inr (ci, fs)) {v : Value} (hn : narrow ty v = v) (hfit : fits ty v = true) (hl9 : k < fs.length) (hd : decode cc pc = .ok (.putfield idx, 3)) (h : PR M (pc + 3) lv st (rput ω a (.inr (ci, fs.set k v))) kn) : PR M pc lv (v :: .ref a :: st) ω kn := by
  obtain ⟨p, l, e, R, s, m, args, below, meth, c, V, nL, Q⟩ := M
  intro ls H locs hl hG hS
  obtain ⟨q0, hq⟩ := rc_at ha
  have hq0 := hq
  rw [hc] at hq
  unfold PF at hf
  cases hcl : vwCl[ci]? with
  | none => rw [hcl] at hf; exact hf.elim
  | some r =>
    obtain ⟨Cn, T, N⟩ := r
    rw [hcl] at hf
    obtain ⟨f1, f2, f3, f4, f5, f9, f6, ⟨ty0, f7⟩, f8⟩ := hf
    refine va_putF (D := vD V) C.1 C.2.1 C.2.2.2.2.1 f2 ty0 f7 f8 C.2.2.2.1 C.2.2.2.2.2.2.2.1 hG.1 hG.2 hS q0 hq hcl k f1 (C.2.2.2.2.1 _ f3) (by subst f4; exact fun _ h => h) f5 hI f9 f6 hn hfit hl9 hd (fun H1 locs1 hP hD hS => ?_)
    rw [rc_put hG.2 hq0] at hP hD
    exact h ls H1 locs1 hl ⟨hP, hD⟩ hS
theorem Z_put (C : Cx M cc ret own Ts rm mc ms Qc) {idx ci k a : Nat} {rn : String} {ty : FieldType} (hf : PA own Ts idx ci k rn ty) {fs : List Value} (ha : a ∈ ω.1) (hc : ω.2 a = .inr (ci, fs)) {v : Value} (hn : narrow ty v = v) (hfit : fits ty v = true) (hl9 : k < fs.length) (hd : decode cc pc = .ok (.putfield idx, 3)) (h : PR M (pc + 3) lv st (rput ω a (.inr (ci, fs.set k v))) kn) : PR M pc lv (v :: .ref a :: st) ω kn := by
  obtain ⟨p, l, e, R, s, m, args, below, meth, c, V, nL, Q⟩ := M
  intro ls H locs hl hG hS
  obtain ⟨q0, hq⟩ := rc_at ha
  have hq0 := hq
  rw [hc] at hq
  unfold PA at hf
  cases hcl : vwCl[ci]? with
  | none => rw [hcl] at hf; exact hf.elim
  | some r =>
    obtain ⟨Cn, T, N⟩ := r
    rw [hcl] at hf
    obtain ⟨f1, f2, f3, f4, f5, f6, ⟨ty0, f7⟩, f8⟩ := hf
    refine va_put (D := vD V) C.1 C.2.1 C.2.2.2.2.1 f2 ty0 f7 f8 C.2.2.2.1 C.2.2.2.2.2.2.2.1 hG.1 hG.2 hS q0 hq hcl k f1 (C.2.2.2.2.1 _ f3) (by subst f4; exact fun _ h => h) f5 f6 hn hfit hl9 hd (fun H1 locs1 hP hD hS => ?_)
    rw [rc_put hG.2 hq0] at hP hD
    exact h ls H1 locs1 hl ⟨hP, hD⟩ hS
theorem Z_get (C : Cx M cc ret own Ts rm mc ms Qc) {idx ci k a : Nat} {rn : String} (hf : FA own Ts idx ci k rn) {fs : List Value} (ha : a ∈ ω.1) (hc : ω.2 a = .inr (ci, fs)) {v : Value} (hv : fs[k]? = some v) (hd : decode cc pc = .ok (.getfield idx, 3)) (h : PR M (pc + 3) lv (v :: st) ω kn) : PR M pc lv (.ref a :: st) ω kn := by
  obtain ⟨p, l, e, R, s, m, args, below, meth, c, V, nL, Q⟩ := M
  intro ls H locs hl hG hS
  obtain ⟨q0, hq⟩ := rc_at ha
  rw [hc] at hq
  unfold FA at hf
  cases hcl : vwCl[ci]? with
  | none => rw [hcl] at hf; exact hf.elim
  | some r =>
    obtain ⟨Cn, T, N⟩ := r
    rw [hcl] at hf
    obtain ⟨f1, f2, f3, f4⟩ := hf
    refine va_get (D := vD V) (v := v) C.1 C.2.1 C.2.2.2.2.1 f2 C.2.2.2.1 C.2.2.2.2.2.2.2.1 hG.1 q0 hq hcl k f1 (C.2.2.2.2.1 _ f3) ?_ hv hd (h ls H locs hl hG hS)
    rcases f4 with f4 | f4
    · subst f4; exact fun _ h => h
    · exact u_same (C.2.2.2.2.1 _ f4)
theorem Z_new (C : Cx M cc ret own Ts rm mc ms Qc) (hU : UPV (mV M)) {idx ci N : Nat} {Cn : String} {T : u_T} {ty : Nat → FieldType} (hcl : vwCl[ci]? = some (Cn, T, N)) (hin : ∀ w ∈ u_ws Cn T N, w ∈ Ts) (hty : ∀ k, k < N → parseFieldDescriptor (T k).2.2.1 = some (ty k)) (h1 : Cond.classLink own idx Cn ∈ Ts) (h2 : Cond.instantiable Cn N ∈ Ts) (h3 : Cond.initialized Cn ∈ Ts) {fs : List Value} (hfs : ∀ j, j < N → defaultValue (ty j) = vp_V fs j) (hc : kn.1 + 1 ≤ rm.cells) (hs : kn.2 + N ≤ rm.slots) (hd : decode cc pc = .ok (.new idx, 3)) (h : ∀ q, q ∉ ω.1 → PR M (pc + 3) lv (.ref q :: st) (rnew ω q (.inr (ci, fs))) (kn.1 + 1, kn.2 + N)) : PR M pc lv st ω kn := by
  obtain ⟨p, l, e, R, s, m, args, below, meth, c, V, nL, Q⟩ := M
  intro ls H locs hl hG hS
  obtain ⟨hx, hb, hml, hown, hts, hr, hlk, hK, rfl, rfl, hw, hX⟩ := C
  refine va_new (D := vD V) hx hb hts hin ty hty hown (hts _ h1) (hts _ h2) (hts _ h3) hK hG.1 hG.2 hS (hU s hX.1).1 hcl hfs hc hs hd (fun q H1 hP hD hS1 => ?_)
  obtain ⟨n1, n2⟩ := rc_new hD
  rw [n2] at hP hD
  exact h q n1 ls H1 locs hl ⟨hP, hD⟩ hS1
theorem Z_newa (C : Cx M cc ret own Ts rm mc ms Qc) (hU : UPV (mV M)) {atype : ArrayType} {ty : FieldType} {t : Nat} (harr : Cond.arrayClass ty ∈ Ts) (hty : newarray.typeOf atype = ty) (htt : (tysV (mV M))[t]? = some (vC (mV M) t, ty)) (hra : ∀ (U : State) (cA : ClassId), va_RA U cA ty → U.vm.findClass ("[" ++ ty.toString) = some cA) {n : Int32} {N' : Nat} {a0 : vp_A} (ha : ∀ cA : ClassId, vp_cell cA a0 = arrV cA N' (fun _ => defaultValue ty)) (hn : ¬ n < 0) (hN : n.toNatClampNeg = N') (hby : N' * componentBytes ty ≤ 536870912) (hc : kn.1 + 1 ≤ rm.cells) (hs : kn.2 + N' ≤ rm.slots) (hd : decode cc pc = .ok (.newarray atype, 2)) (h : ∀ q, q ∉ ω.1 → PR M (pc + 2) lv (.ref q :: st) (rnew ω q (.inl (vC (mV M) t, a0))) (kn.1 + 1, kn.2 + N')) : PR M pc lv (.int n :: st) ω kn := by
  obtain ⟨p, l, e, R, s, m, args, below, meth, c, V, nL, Q⟩ := M
  intro ls H locs hl hG hS
  obtain ⟨hx, hb, hml, hown, hts, hr, hlk, hK, rfl, rfl, hw, hX⟩ := C
  refine va_newa (D := vD V) hx hb (by rw [hty]; exact hts _ harr) hty hK hG.1 hG.2 hS (hU s hX.1).1 ha hn hN hby hc hs hd (fun q cA H1 hK1 hP hD hS1 => ?_)
  have e1 := hra s cA (hK1.2 (tysV V).length _ (by rw [List.getElem?_append_right (Nat.le_refl _), Nat.sub_self]; rfl)).2
  have e2 := hra s (vC V t) (hK.2 t _ htt).2
  have e3 : cA = vC V t := Option.some.inj (e1.symm.trans e2)
  rw [e3] at hP hD
  obtain ⟨n1, n2⟩ := rc_new hD
  rw [n2] at hP hD
  exact h q n1 ls H1 locs hl ⟨hP, hD⟩ hS1
theorem Z_newq (C : Cx M cc ret own Ts rm mc ms Qc) (hU : UPV (mV M)) {idx t : Nat} {Cn : String} (hAO : ∀ U, vX (mV M) U → va_AO Cn U) (htt : (tysV (mV M))[t]? = some (vC (mV M) t, .object Cn)) (h1 : Cond.classLink own idx Cn ∈ Ts) {n : Int32} {N' : Nat} (hn : ¬ n < 0) (hN : n.toNatClampNeg = N') (hby : N' * 4 ≤ 536870912) (hc : kn.1 + 1 ≤ rm.cells) (hs : kn.2 + N' ≤ rm.slots) (hd : decode cc pc = .ok (.anewarray idx, 3)) (h : ∀ q, q ∉ ω.1 → PR M (pc + 3) lv (.ref q :: st) (rnew ω q (.inl (vC (mV M) t, N', .inr (.inr (.inr (.inr (fun _ => none))))))) (kn.1 + 1, kn.2 + N')) : PR M pc lv (.int n :: st) ω kn := by
  obtain ⟨p, l, e, R, s, m, args, below, meth, c, V, nL, Q⟩ := M
  intro ls H locs hl hG hS
  obtain ⟨hx, hb, hml, hown, hts, hr, hlk, hK, rfl, rfl, hw, hX⟩ := C
  refine va_newq (D := vD V) hx hb hown (hts _ h1) (hAO s hX.1) hK hG.1 hG.2 hS (hU s hX.1).1 hn hN hby hc hs hd (fun q cA H1 hK1 hP hD hS1 => ?_)
  obtain ⟨k1, c1, -, -, -, e1⟩ := (hK1.2 (tysV V).length _ (by rw [List.getElem?_append_right (Nat.le_refl _), Nat.sub_self]; rfl)).2
  obtain ⟨k2, c2, -, -, -, e2⟩ := (hK.2 t _ htt).2
  have e3 : cA = vC V t := Option.some.inj (e1.symm.trans e2)
  rw [e3] at hP hD
  obtain ⟨n1, n2⟩ := rc_new hD
  rw [n2] at hP hD
  exact h q n1 ls H1 locs hl ⟨hP, hD⟩ hS1
theorem Z_iast (C : Cx M cc ret own Ts rm mc ms Qc) {a n : Nat} {f : Nat → Int32} {i x : Int32} (ha : a ∈ ω.1) (hc : ω.2 a = .inl (vC (mV M) 0, n, .inl f)) (hin : vp_in i n) (hd : decode cc pc = .ok (.iastore, 1)) (h : PR M (pc + 1) lv st (rput ω a (.inl (vC (mV M) 0, n, .inl (upd f i.toNatClampNeg x)))) kn) : PR M pc lv (.int x :: .int i :: .ref a :: st) ω kn := by
  obtain ⟨p, l, e, R, s, m, args, below, meth, c, V, nL, Q⟩ := M
  intro ls H locs hl hG hS
  obtain ⟨q0, hq⟩ := rc_at ha
  have hq0 := hq
  rw [hc] at hq
  refine va_iast (D := vD V) C.1 C.2.1 C.2.2.2.2.2.2.2.1 hG.1 hG.2 hS q0 0 hq rfl hin hd (fun H1 locs1 hP hD hS => ?_)
  rw [rc_put hG.2 hq0] at hP hD
  exact h ls H1 locs1 hl ⟨hP, hD⟩ hS
theorem Z_aast (C : Cx M cc ret own Ts rm mc ms Qc) {a n t ci v : Nat} {r : vw_C} {vs : List Value} {f : Nat → Option Nat} {i : Int32} (ha : a ∈ ω.1) (hc : ω.2 a = .inl (vC (mV M) t, n, .inr (.inr (.inr (.inr f))))) (htt : (tysV (mV M))[t]? = some (vC (mV M) t, .object r.1)) (hv : v ∈ ω.1) (hcv : ω.2 v = .inr (ci, vs)) (hcl : vwCl[ci]? = some r) (hin : vp_in i n) (hd : decode cc pc = .ok (.aastore, 1)) (h : PR M (pc + 1) lv st (rput ω a (.inl (vC (mV M) t, n, .inr (.inr (.inr (.inr (va_up f i.toNatClampNeg (some v)))))))) kn) : PR M pc lv (.ref v :: .int i :: .ref a :: st) ω kn := by
  obtain ⟨p, l, e, R, s, m, args, below, meth, c, V, nL, Q⟩ := M
  intro ls H locs hl hG hS
  obtain ⟨q0, hq⟩ := rc_at ha
  obtain ⟨q1, hq1⟩ := rc_at hv
  have hq0 := hq
  rw [hc] at hq
  rw [hcv] at hq1
  refine va_astq (D := vD V) C.1 C.2.1 C.2.2.2.2.2.2.2.1 hG.1 hG.2 hS q0 t q1 ci hq htt hq1 hcl hin hd (fun H1 locs1 hP hD hS => ?_)
  rw [rc_put hG.2 hq0] at hP hD
  exact h ls H1 locs1 hl ⟨hP, hD⟩ hS
theorem Z_objInit (C : Cx M cc ret own Ts rm mc ms Qc) {idx a : Nat} (h1 : Cond.methodLink own idx Lib.objectInit ∈ Ts) (h2 : Cond.instanceMethod Lib.objectInit ∈ Ts) (h3 : Cond.code Lib.objectInit ⟨#[0xb1]⟩ 1 none ∈ Ts) (hst : (st.map fun v => v.category).sum + 12 ≤ rm.locals) (hfr : 1 ≤ rm.frames) (hd : decode cc pc = .ok (.invokespecial idx, 3)) (h : PR M (pc + 3) lv st ω kn) : PR M pc lv (.ref a :: st) ω kn := by
  obtain ⟨p, l, e, R, s, m, args, below, meth, c, V, nL, Q⟩ := M
  intro ls H locs hl hG hS
  obtain ⟨hx, hb, hml, hown, hts, hr, hlk, hK, rfl, rfl, hw, hX⟩ := C
  refine W.objInit hx hb hown (hts _ h1) (hts _ h2) (hts _ h3) rfl (by rw [hml]; exact hl.1) rfl hd hfr (by show 2 * 0 + _ + 12 ≤ _; omega) ?_
  exact W.eq (g2 := F0 m (pc + 3) ls st) rfl (h ls H locs hl hG hS)
/-- a constructor is called -/
noncomputable def KI (own : String) (Ts : List Cond) (rm : Room) (idx : Nat) (y : MethodName) (ws : List Cond) (rc : Room) (n : Nat) : Prop :=
  ∃ (bytes : ByteArray) (maxL : Nat) (ws' : List Cond), GoodIn Ts ws ∧ ws = Cond.code y bytes maxL none :: ws' ∧ Cond.initialized y.cls ∈ Ts ∧ Cond.methodLink own idx y ∈ Ts ∧ Cond.instanceMethod y ∈ Ts ∧ y.name = "<init>" ∧ (y.cls ≠ "java/lang/invoke/MethodHandle" ∧ y.cls ≠ "java/lang/invoke/VarHandle" ∧ (parseMethodDescriptor y.desc).map (fun d => d.parameters.length) = some n) ∧ (rc.frames + 1 ≤ rm.frames ∧ 8 + (maxL + 11) + rc.locals ≤ rm.locals)
theorem Z_ci {Qk : RWd → Prop} {idx n b : Nat} {y : MethodName} {ws : List Cond} {As : List Value} (C : Cx M cc ret own Ts rm mc ms Qc) (k : KI own Ts rm idx y ws rc0 n) (hn : As.length = n) (hst : (st.map fun v => v.category).sum ≤ 8) (hd : decode cc pc = .ok (.invokespecial idx, 3)) (hf : kn.1 + rc0.cells ≤ rm.cells ∧ kn.2 + rc0.slots ≤ rm.slots) (hM : Kr (mL M) (mV M) y ws rc0 rc0.cells rc0.slots (.ref b :: As) ω (QRV (mV M) Qk)) (h : ∀ ω', Qk ω' → PR M (pc + 3) lv st ω' (kn.1 + rc0.cells, kn.2 + rc0.slots)) : PR M pc lv (As.reverse ++ .ref b :: st) ω kn := by
  obtain ⟨p, l, e, R, s, m, args, below, meth, c, V, nL, Q⟩ := M
  intro ls H locs hl hG hS
  obtain ⟨hx, hb, hml, hown, hts, hr, hlk, hK, rfl, rfl, hw, hX⟩ := C
  obtain ⟨bytes, maxL, ws', k1, k2, k3, k4, k5, k6, k7, k8⟩ := k
  have hst2 : 2 * (F0 m pc ls (As.reverse ++ .ref b :: st)).monitorRoom + (st.map fun v => v.category).sum ≤ 8 := by show 2 * 0 + _ ≤ 8; omega
  exact va_callv (va_runI (As := As) (b := b) ⟨hx, hb, hml, hown, hts⟩ hM (cwI n hts k1 k2 rfl rfl (hts _ k3) (hts _ k4) (hts _ k5) k6 k7 k8) ⟨GRRblind, fun U hU hW => ⟨rfl, GRR_mk hU hG hK hw hX hS hW⟩⟩ rfl hn hl.1 rfl hst2 hd hf) hS (fun _ _ h => h) (fun _ h => h) (fun u t H1 locs1 ht hvm hq hB hz hk hS1 => by subst ht; exact h u hq ls _ locs1 hl hB.1 hS1)
theorem Z_vret {Qk : RWd → Prop} (C : Cx M cc none own Ts rm mc ms (QRV (mV M) Qk)) (hd : decode cc pc = .ok (.return_, 1)) (h : Qk ω) : PR M pc lv [] ω (mc, ms) := by
  obtain ⟨p, l, e, R, s, m, args, below, meth, c, V, nL, Q⟩ := M
  intro ls H locs hl hG hS
  obtain ⟨hx, hb, hml, hown, hts, hr, hlk, hK, hR, hQ, hw, hX⟩ := C
  have hQ : Q = MQ below (QRV V Qk) args s mc ms (vA V) := hQ
  subst hQ
  exact W.vret hx hb hr (fun t ht hW => ⟨⟨ω, rfl, h, GRR_mk ht hG hK hw hX hS hW⟩, hS.F ht⟩) hS.2.2 hd hlk
theorem Z_aret {Qk : Nat → RWd → Prop} {rt : FieldType} (C : Cx M cc (some rt) own Ts rm mc ms (QRR (mV M) Qk)) (hrt : (∃ n, rt = .object n) ∨ ∃ t, rt = .array t) {x : Nat} (hd : decode cc pc = .ok (.areturn, 1)) (h : Qk x ω) : PR M pc lv [.ref x] ω (mc, ms) := by
  obtain ⟨p, l, e, R, s, m, args, below, meth, c, V, nL, Q⟩ := M
  intro ls H locs hl hG hS
  obtain ⟨hx, hb, hml, hown, hts, hr, hlk, hK, hR, hQ, hw, hX⟩ := C
  have hQ : Q = MQ below (QRR V Qk) args s mc ms (vA V) := hQ
  subst hQ
  exact W.aret (v := .ref x) hx hb hr hrt (Or.inr ⟨_, rfl⟩) (fun t ht hW => ⟨⟨(x, ω), x, rfl, h, rfl, GRR_mk ht hG hK hw hX hS hW⟩, hS.F ht⟩) hS.2.2 hd hlk
end RulesR
/-- the state's cells, raw -/
noncomputable def rwd (V : Vx) (σ : Sg) : RWd := ((ids V).map (va V), fun a => match (ids V).find? (fun i => va V i == a) with
  | some i => ct V σ i
  | none => .inl (0, 0, .inl fun _ => 0))
theorem rwd_ct {V : Vx} {σ : Sg} {A : Nat → Prop} (hD : va_D A (cells V σ)) {id : Nat} (hi : id ∈ ids V) : (rwd V σ).2 (va V id) = ct V σ id := by
  show (match (ids V).find? (fun i => va V i == va V id) with
    | some i => ct V σ i
    | none => _) = _
  cases hf : (ids V).find? (fun i => va V i == va V id) with
  | none => exact absurd (List.find?_eq_none.mp hf id hi) (by simp)
  | some i =>
    have h1 := List.find?_some hf
    have h2 := List.mem_of_find?_eq_some hf
    have h3 : va V i = va V id := by simpa using h1
    rw [va_D_inj hD h2 hi h3]
theorem rwd_rc {V : Vx} {σ : Sg} {A : Nat → Prop} (hD : va_D A (cells V σ)) : rc (rwd V σ) = cells V σ := by
  unfold rc cells
  rw [show (rwd V σ).1 = (ids V).map (va V) from rfl, List.map_map]
  apply List.map_congr_left
  intro id hi
  show (va V id, (rwd V σ).2 (va V id)) = _
  rw [rwd_ct hD hi]
